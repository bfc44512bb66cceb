/-! the JDK's own leaves, and Wide.bits -/
/-- how many bits a number has -/
def nb (x : Nat) : Nat := if x = 0 then 0 else x.log2 + 1
theorem nb_0 : nb 0 = 0 := rfl
theorem nb_lo {x : Nat} (h : x ≠ 0) : 2 ^ (nb x - 1) ≤ x := by
  unfold nb; rw [if_neg h, Nat.add_sub_cancel]; exact (Nat.le_log2 h).mp (Nat.le_refl _)
theorem nb_hi (x : Nat) : x < 2 ^ nb x := by
  unfold nb
  split
  · rename_i q; rw [q]; decide
  · rename_i q; exact (Nat.log2_lt q).mp (Nat.lt_succ_self _)
theorem nb_eq {x k : Nat} (h1 : 2 ^ k ≤ x) (h2 : x < 2 ^ (k + 1)) : nb x = k + 1 := by
  have h0 : x ≠ 0 := by have := p_pos k; omega
  unfold nb
  rw [if_neg h0]
  have e1 := (Nat.le_log2 h0).mpr h1
  have e2 := (Nat.log2_lt h0).mpr h2
  omega
theorem nb_le {x k : Nat} (h : x < 2 ^ k) : nb x ≤ k := by
  unfold nb
  split
  · omega
  · rename_i q; exact (Nat.log2_lt q).mpr h
theorem nb_ge {x k : Nat} (h : 2 ^ k ≤ x) : k + 1 ≤ nb x := by
  have h0 : x ≠ 0 := by have := p_pos k; omega
  unfold nb
  rw [if_neg h0]
  have := (Nat.le_log2 h0).mpr h
  omega
theorem nb_pos {x : Nat} (h : x ≠ 0) : 1 ≤ nb x := by unfold nb; rw [if_neg h]; omega
theorem nb_up {x y s : Nat} (hx : x ≠ 0) (hy : y < 2 ^ s) : nb (x * 2 ^ s + y) = nb x + s := by
  have h1 := nb_lo hx
  have h2 := nb_hi x
  have h3 := nb_pos hx
  obtain ⟨m, em⟩ : ∃ m, nb x = m + 1 := ⟨nb x - 1, by omega⟩
  rw [em] at h1 h2 ⊢
  rw [Nat.add_sub_cancel] at h1
  rw [show m + 1 + s = (m + s) + 1 from by omega]
  apply nb_eq
  · rw [Nat.pow_add]; have := Nat.mul_le_mul_right (2 ^ s) h1; omega
  · rw [show m + s + 1 = m + 1 + s from by omega, Nat.pow_add]
    have := Nat.mul_le_mul_right (2 ^ s) (show x + 1 ≤ 2 ^ (m + 1) from h2)
    rw [Nat.add_mul, Nat.one_mul] at this
    omega
theorem nb_shr {x s : Nat} (h : 2 ^ s ≤ x) : nb x = nb (x / 2 ^ s) + s := by
  have h0 : x / 2 ^ s ≠ 0 := by
    have := Nat.div_pos h (p_pos s); omega
  have e := nb_up h0 (Nat.mod_lt x (p_pos s))
  rw [← e]; congr 1
  rw [Nat.mul_comm]; exact (Nat.div_add_mod x (2 ^ s)).symm
set_option maxHeartbeats 4000000 in
set_option maxRecDepth 100000 in
theorem p_nlz0 {d n x : Nat} {y : Int} {h : zH} (hx : x < 4294967296) (hy : -2147483648 ≤ y ∧ y < 2147483648) (hy2 : (y < 0 → 2147483648 ≤ x) ∧ (0 ≤ y → y = x ∧ x < 2147483648)) :
    zM yJ6_numberOfLeadingZeros_0f7a4 cJ6_numberOfLeadingZeros_0f7a4 2 (some .int) d 0 0 [.int (iI y)] h n (fun r h' n' => r = some (.int (iI (32 - nb x : Nat))) ∧ n' = n ∧ h' = h) := by
  refine zM_of zyJ6_numberOfLeadingZeros_0f7a4 rfl (Nat.le_of_ble_eq_true rfl) (fun X hX => ?_)
  have j73 : ∀ (y s : Nat) (m : Int), 1 ≤ y → y < 4 → nb x = nb y + s → m = 31 - (s : Int) → (zV X (fun r h' n' => r = some (.int (iI (32 - nb x : Nat))) ∧ n' = n ∧ h' = h) cJ6_numberOfLeadingZeros_0f7a4 2 RJ6 (some .int) d 0 0 73 [(0, .int (iI (y:Nat))), (1, .int (iI m))] [] h n 0 0) := by
    intro y s m h1 h2 e em
    refine v_iload_n dJ6_numberOfLeadingZeros_0f7a4_73 rfl ?_
    refine v_iload_n dJ6_numberOfLeadingZeros_0f7a4_74 rfl ?_
    refine v_iconst (iI 1) dJ6_numberOfLeadingZeros_0f7a4_75 rfl ?_
    refine w_iushr dJ6_numberOfLeadingZeros_0f7a4_76 1 2 rfl rfl (by decide) (by omega) ?_
    refine w_isub dJ6_numberOfLeadingZeros_0f7a4_77 ?_
    have e3 : nb y = 1 + y / 2 := by
      have : y = 1 ∨ y = 2 ∨ y = 3 := by omega
      rcases this with rfl | rfl | rfl <;> decide
    exact v_iret dJ6_numberOfLeadingZeros_0f7a4_78 trivial (Nat.le_of_ble_eq_true rfl) (Nat.le_of_ble_eq_true rfl) ⟨by rw [show (32 - nb x : Nat) = ((m - (y : Int) / 2).toNat) from by omega]; have hz := nb_le (k := 32) hx; rw [show (((m - (y : Int) / 2).toNat : Nat) : Int) = m - (y : Int) / 2 from by omega], rfl, rfl⟩
  have j61 : ∀ (y s : Nat) (m : Int), 1 ≤ y → y < 16 → nb x = nb y + s → m = 31 - (s : Int) → (zV X (fun r h' n' => r = some (.int (iI (32 - nb x : Nat))) ∧ n' = n ∧ h' = h) cJ6_numberOfLeadingZeros_0f7a4 2 RJ6 (some .int) d 0 0 61 [(0, .int (iI (y:Nat))), (1, .int (iI m))] [] h n 0 0) := by
    intro y s m h1 h2 e em
    refine v_iload_n dJ6_numberOfLeadingZeros_0f7a4_61 rfl ?_
    refine v_iconst (iI 4) dJ6_numberOfLeadingZeros_0f7a4_62 rfl ?_
    refine w_icmp_lt 73 dJ6_numberOfLeadingZeros_0f7a4_63 (by decide) (by omega) (by decide) (fun c => ?_) (fun c => ?_)
    · skip
      exact j73 y s m h1 (by omega) e em
    · skip
      refine w_iinc (lv' := [(1, .int (iI (m + (-2)))), (0, .int (iI (y:Nat)))]) dJ6_numberOfLeadingZeros_0f7a4_66 rfl (by decide) rfl ?_
      refine v_iload_n dJ6_numberOfLeadingZeros_0f7a4_69 rfl ?_
      refine v_iconst (iI 2) dJ6_numberOfLeadingZeros_0f7a4_70 rfl ?_
      refine w_iushr dJ6_numberOfLeadingZeros_0f7a4_71 2 4 rfl rfl (by decide) (by omega) ?_
      refine w_ei (y/4:Nat) (by omega) ?_
      refine v_istore_n (i := 0) (lv' := [(0, .int (iI (y/4:Nat))), (1, .int (iI (m + (-2))))]) dJ6_numberOfLeadingZeros_0f7a4_72 rfl (by decide) rfl ?_
      refine w_sub (lv2 := [(0, .int (iI (y/4:Nat))), (1, .int (iI (m + (-2))))]) [0, 1] rfl ?_
      exact j73 (y / 4) (s + 2) _ (by omega) (by omega) (by have := nb_shr (x := y) (s := 2) (by omega); rw [show y / 4 = y / 2 ^ 2 from rfl]; omega) (by omega)
  have j48 : ∀ (y s : Nat) (m : Int), 1 ≤ y → y < 256 → nb x = nb y + s → m = 31 - (s : Int) → (zV X (fun r h' n' => r = some (.int (iI (32 - nb x : Nat))) ∧ n' = n ∧ h' = h) cJ6_numberOfLeadingZeros_0f7a4 2 RJ6 (some .int) d 0 0 48 [(0, .int (iI (y:Nat))), (1, .int (iI m))] [] h n 0 0) := by
    intro y s m h1 h2 e em
    refine v_iload_n dJ6_numberOfLeadingZeros_0f7a4_48 rfl ?_
    refine v_bipush (iI 16) dJ6_numberOfLeadingZeros_0f7a4_49 rfl ?_
    refine w_icmp_lt 61 dJ6_numberOfLeadingZeros_0f7a4_51 (by decide) (by omega) (by decide) (fun c => ?_) (fun c => ?_)
    · skip
      exact j61 y s m h1 (by omega) e em
    · skip
      refine w_iinc (lv' := [(1, .int (iI (m + (-4)))), (0, .int (iI (y:Nat)))]) dJ6_numberOfLeadingZeros_0f7a4_54 rfl (by decide) rfl ?_
      refine v_iload_n dJ6_numberOfLeadingZeros_0f7a4_57 rfl ?_
      refine v_iconst (iI 4) dJ6_numberOfLeadingZeros_0f7a4_58 rfl ?_
      refine w_iushr dJ6_numberOfLeadingZeros_0f7a4_59 4 16 rfl rfl (by decide) (by omega) ?_
      refine w_ei (y/16:Nat) (by omega) ?_
      refine v_istore_n (i := 0) (lv' := [(0, .int (iI (y/16:Nat))), (1, .int (iI (m + (-4))))]) dJ6_numberOfLeadingZeros_0f7a4_60 rfl (by decide) rfl ?_
      refine w_sub (lv2 := [(0, .int (iI (y/16:Nat))), (1, .int (iI (m + (-4))))]) [0, 1] rfl ?_
      exact j61 (y / 16) (s + 4) _ (by omega) (by omega) (by have := nb_shr (x := y) (s := 4) (by omega); rw [show y / 16 = y / 2 ^ 4 from rfl]; omega) (by omega)
  have j33 : ∀ (y s : Nat) (m : Int), 1 ≤ y → y < 65536 → nb x = nb y + s → m = 31 - (s : Int) → (zV X (fun r h' n' => r = some (.int (iI (32 - nb x : Nat))) ∧ n' = n ∧ h' = h) cJ6_numberOfLeadingZeros_0f7a4 2 RJ6 (some .int) d 0 0 33 [(0, .int (iI (y:Nat))), (1, .int (iI m))] [] h n 0 0) := by
    intro y s m h1 h2 e em
    refine v_iload_n dJ6_numberOfLeadingZeros_0f7a4_33 rfl ?_
    refine v_sipush (iI 256) dJ6_numberOfLeadingZeros_0f7a4_34 rfl ?_
    refine w_icmp_lt 48 dJ6_numberOfLeadingZeros_0f7a4_37 (by decide) (by omega) (by decide) (fun c => ?_) (fun c => ?_)
    · skip
      exact j48 y s m h1 (by omega) e em
    · skip
      refine w_iinc (lv' := [(1, .int (iI (m + (-8)))), (0, .int (iI (y:Nat)))]) dJ6_numberOfLeadingZeros_0f7a4_40 rfl (by decide) rfl ?_
      refine v_iload_n dJ6_numberOfLeadingZeros_0f7a4_43 rfl ?_
      refine v_bipush (iI 8) dJ6_numberOfLeadingZeros_0f7a4_44 rfl ?_
      refine w_iushr dJ6_numberOfLeadingZeros_0f7a4_46 8 256 rfl rfl (by decide) (by omega) ?_
      refine w_ei (y/256:Nat) (by omega) ?_
      refine v_istore_n (i := 0) (lv' := [(0, .int (iI (y/256:Nat))), (1, .int (iI (m + (-8))))]) dJ6_numberOfLeadingZeros_0f7a4_47 rfl (by decide) rfl ?_
      refine w_sub (lv2 := [(0, .int (iI (y/256:Nat))), (1, .int (iI (m + (-8))))]) [0, 1] rfl ?_
      exact j48 (y / 256) (s + 8) _ (by omega) (by omega) (by have := nb_shr (x := y) (s := 8) (by omega); rw [show y / 256 = y / 2 ^ 8 from rfl]; omega) (by omega)
  refine v_iload_n dJ6_numberOfLeadingZeros_0f7a4_0 rfl ?_
  refine w_if_gt 15 dJ6_numberOfLeadingZeros_0f7a4_1 (by decide) (by omega) (fun c => ?_) (fun c => ?_)
  · skip
    refine v_bipush (iI 31) dJ6_numberOfLeadingZeros_0f7a4_15 rfl ?_
    refine v_istore_n (i := 1) (lv' := [(1, .int (iI 31)), (0, .int (iI y))]) dJ6_numberOfLeadingZeros_0f7a4_17 rfl (by decide) rfl ?_
    refine v_iload_n dJ6_numberOfLeadingZeros_0f7a4_18 rfl ?_
    refine v_ldc_w (v := iI 65536) kJ6_264 dJ6_numberOfLeadingZeros_0f7a4_19 ?_
    refine w_icmp_lt 33 dJ6_numberOfLeadingZeros_0f7a4_22 (by decide) (by omega) (by decide) (fun c2 => ?_) (fun c2 => ?_)
    · skip
      refine w_sub (lv2 := [(0, .int (iI y)), (1, .int (iI 31))]) [1, 0] rfl ?_
      rw [show y = (x : Nat) from by omega]
      exact j33 x 0 _ (by omega) (by omega) rfl rfl
    · skip
      refine w_iinc (lv' := [(1, .int (iI (31 + (-16)))), (0, .int (iI y))]) dJ6_numberOfLeadingZeros_0f7a4_25 rfl (by decide) rfl ?_
      refine v_iload_n dJ6_numberOfLeadingZeros_0f7a4_28 rfl ?_
      refine v_bipush (iI 16) dJ6_numberOfLeadingZeros_0f7a4_29 rfl ?_
      refine w_iushr dJ6_numberOfLeadingZeros_0f7a4_31 16 65536 rfl rfl (by decide) (by omega) ?_
      refine w_ei (x / 65536:Nat) (by omega) ?_
      refine v_istore_n (i := 0) (lv' := [(0, .int (iI (x / 65536:Nat))), (1, .int (iI (31 + (-16))))]) dJ6_numberOfLeadingZeros_0f7a4_32 rfl (by decide) rfl ?_
      refine w_sub (lv2 := [(0, .int (iI (x / 65536:Nat))), (1, .int (iI (31 + (-16))))]) [0, 1] rfl ?_
      exact j33 (x / 65536) 16 _ (by omega) (by omega) (by have := nb_shr (x := x) (s := 16) (by omega); rw [show x / 65536 = x / 2 ^ 16 from rfl]; omega) (by omega)
  · skip
    refine v_iload_n dJ6_numberOfLeadingZeros_0f7a4_4 rfl ?_
    refine w_if_ne 13 dJ6_numberOfLeadingZeros_0f7a4_5 (by decide) (by omega) (fun c2 => ?_) (fun c2 => ?_)
    · have e : nb x = 32 := nb_eq (k := 31) (by omega) (by omega)
      refine v_iconst (iI 0) dJ6_numberOfLeadingZeros_0f7a4_13 rfl ?_
      exact v_iret dJ6_numberOfLeadingZeros_0f7a4_14 trivial (Nat.le_of_ble_eq_true rfl) (Nat.le_of_ble_eq_true rfl) ⟨by rw [e]; rfl, rfl, rfl⟩
    · skip
      refine v_bipush (iI 32) dJ6_numberOfLeadingZeros_0f7a4_8 rfl ?_
      refine v_goto 14 dJ6_numberOfLeadingZeros_0f7a4_10 (by decide) ?_
      exact v_iret dJ6_numberOfLeadingZeros_0f7a4_14 trivial (Nat.le_of_ble_eq_true rfl) (Nat.le_of_ble_eq_true rfl) ⟨by rw [show x = 0 from by omega]; rfl, rfl, rfl⟩
theorem sgn32 (x : Nat) (a : Int) (hx : x < 4294967296) (ha : a % 4294967296 = x) : ∃ y : Int, iI a = iI y ∧ (-2147483648 ≤ y ∧ y < 2147483648) ∧ ((y < 0 → 2147483648 ≤ x) ∧ (0 ≤ y → y = x ∧ x < 2147483648)) := by
  by_cases q : x < 2147483648
  · exact ⟨x, iI_eq (by omega), by omega, by omega⟩
  · exact ⟨(x : Int) - 4294967296, iI_eq (by omega), by omega, by omega⟩
theorem p_nlz {d n x : Nat} {a : Int} {h : zH} (hx : x < 4294967296) (ha : a % 4294967296 = x) :
    zM yJ6_numberOfLeadingZeros_0f7a4 cJ6_numberOfLeadingZeros_0f7a4 2 (some .int) d 0 0 [.int (iI a)] h n (fun r h' n' => r = some (.int (iI (32 - nb x : Nat))) ∧ n' = n ∧ h' = h) := by
  obtain ⟨y, e, h1, h2⟩ := sgn32 x a hx ha
  rw [e]
  exact p_nlz0 hx h1 h2
set_option maxHeartbeats 4000000 in
set_option maxRecDepth 100000 in
theorem p_nlzL {d n x : Nat} {h : zH} (hd : 1 ≤ d) (hx : x < 18446744073709551616) :
    zM yJ13_numberOfLeadingZeros_95d88 cJ13_numberOfLeadingZeros_95d88 3 (some .int) d 0 0 [.long (jL (x:Nat))] h n (fun r h' n' => r = some (.int (iI (64 - nb x : Nat))) ∧ n' = n ∧ h' = h) := by
  refine zM_of zyJ13_numberOfLeadingZeros_95d88 rfl (Nat.le_of_ble_eq_true rfl) (fun X hX => ?_)
  refine v_lload_n dJ13_numberOfLeadingZeros_95d88_0 rfl ?_
  refine v_bipush (iI 32) dJ13_numberOfLeadingZeros_95d88_1 rfl ?_
  refine w_lushr dJ13_numberOfLeadingZeros_95d88_3 32 4294967296 rfl rfl (by decide) (by omega) ?_
  refine w_l2i dJ13_numberOfLeadingZeros_95d88_4 ?_
  obtain ⟨y, e, h1, h2⟩ := sgn32 (x / 4294967296) (x / 4294967296 : Nat) (by omega) (by omega)
  refine w_ei (x / 4294967296:Nat) (by omega) ?_
  rw [e]
  refine v_istore_n (i := 2) (lv' := [(2, .int (iI y)), (0, .long (jL (x:Nat)))]) dJ13_numberOfLeadingZeros_95d88_5 rfl (by decide) rfl ?_
  refine v_iload_n dJ13_numberOfLeadingZeros_95d88_6 rfl ?_
  refine w_if_ne 21 dJ13_numberOfLeadingZeros_95d88_7 (by decide) (by omega) (fun c => ?_) (fun c => ?_)
  · skip
    refine v_iload_n dJ13_numberOfLeadingZeros_95d88_21 rfl ?_
    refine v_cS (av := [.int (iI y)]) (st := []) zyJ6_numberOfLeadingZeros_0f7a4 lJ13_308 (p_nlz0 (d := 0) (x := x / 4294967296) (by omega) h1 h2) dJ13_numberOfLeadingZeros_95d88_22 rfl rfl (Nat.le_of_ble_eq_true rfl) (by omega) (Nat.le_of_ble_eq_true rfl) (Nat.le_of_ble_eq_true rfl) (Or.inl (fun _ _ _ q => ZN q)) (fun r9 K1 n9 q9 => ?_)
    obtain ⟨rfl, q9n, q9h⟩ := q9
    have q9n := q9n.symm
    subst q9n
    have q9h := q9h.symm
    subst q9h
    have e1 := nb_shr (x := x) (s := 32) (by omega)
    have e2 : nb (x / 2 ^ 32) ≤ 32 := nb_le (by omega)
    rw [show (2:Nat) ^ 32 = 4294967296 from rfl] at e1 e2
    exact v_iret dJ13_numberOfLeadingZeros_95d88_25 trivial (Nat.le_of_ble_eq_true rfl) (Nat.le_of_ble_eq_true rfl) ⟨by rw [show 32 - nb (x / 4294967296) = 64 - nb x from by omega], rfl, rfl⟩
  · skip
    refine v_bipush (iI 32) dJ13_numberOfLeadingZeros_95d88_10 rfl ?_
    refine v_lload_n dJ13_numberOfLeadingZeros_95d88_12 rfl ?_
    refine w_l2i dJ13_numberOfLeadingZeros_95d88_13 ?_
    refine v_cS (av := [.int (iI (x:Nat))]) (st := [.int (iI 32)]) zyJ6_numberOfLeadingZeros_0f7a4 lJ13_308 (p_nlz (d := 0) (x := x) (by omega) (by omega)) dJ13_numberOfLeadingZeros_95d88_14 rfl rfl (Nat.le_of_ble_eq_true rfl) (by omega) (Nat.le_of_ble_eq_true rfl) (Nat.le_of_ble_eq_true rfl) (Or.inl (fun _ _ _ q => ZN q)) (fun r9 K1 n9 q9 => ?_)
    obtain ⟨rfl, q9n, q9h⟩ := q9
    have q9n := q9n.symm
    subst q9n
    have q9h := q9h.symm
    subst q9h
    have e2 : nb x ≤ 32 := nb_le (by omega)
    refine w_iadd dJ13_numberOfLeadingZeros_95d88_17 ?_
    refine v_goto 25 dJ13_numberOfLeadingZeros_95d88_18 (by decide) ?_
    exact v_iret dJ13_numberOfLeadingZeros_95d88_25 trivial (Nat.le_of_ble_eq_true rfl) (Nat.le_of_ble_eq_true rfl) ⟨by rw [show ((64 - nb x : Nat) : Int) = 32 + ((32 - nb x : Nat) : Int) from by omega], rfl, rfl⟩
set_option maxHeartbeats 4000000 in
set_option maxRecDepth 100000 in
theorem p_max {d n : Nat} {a b : Int} {h : zH} (ha : -2147483648 ≤ a ∧ a < 2147483648) (hb : -2147483648 ≤ b ∧ b < 2147483648) :
    zM yJ9_max_7cf53 cJ9_max_7cf53 2 (some .int) d 0 0 [.int (iI a), .int (iI b)] h n (fun r h' n' => r = some (.int (iI (max a b))) ∧ n' = n ∧ h' = h) := by
  refine zM_of zyJ9_max_7cf53 rfl (Nat.le_of_ble_eq_true rfl) (fun X hX => ?_)
  refine v_iload_n dJ9_max_7cf53_0 rfl ?_
  refine v_iload_n dJ9_max_7cf53_1 rfl ?_
  refine w_icmp_lt 9 dJ9_max_7cf53_2 (by decide) (by omega) (by omega) (fun c => ?_) (fun c => ?_)
  · skip
    refine v_iload_n dJ9_max_7cf53_9 rfl ?_
    exact v_iret dJ9_max_7cf53_10 trivial (Nat.le_of_ble_eq_true rfl) (Nat.le_of_ble_eq_true rfl) ⟨by rw [Int.max_eq_right (by omega)], rfl, rfl⟩
  · skip
    refine v_iload_n dJ9_max_7cf53_5 rfl ?_
    refine v_goto 10 dJ9_max_7cf53_6 (by decide) ?_
    exact v_iret dJ9_max_7cf53_10 trivial (Nat.le_of_ble_eq_true rfl) (Nat.le_of_ble_eq_true rfl) ⟨by rw [Int.max_eq_left (by omega)], rfl, rfl⟩
set_option maxHeartbeats 4000000 in
set_option maxRecDepth 100000 in
theorem p_min {d n : Nat} {a b : Int} {h : zH} (ha : -2147483648 ≤ a ∧ a < 2147483648) (hb : -2147483648 ≤ b ∧ b < 2147483648) :
    zM yJ9_min_7cf53 cJ9_min_7cf53 2 (some .int) d 0 0 [.int (iI a), .int (iI b)] h n (fun r h' n' => r = some (.int (iI (min a b))) ∧ n' = n ∧ h' = h) := by
  refine zM_of zyJ9_min_7cf53 rfl (Nat.le_of_ble_eq_true rfl) (fun X hX => ?_)
  refine v_iload_n dJ9_min_7cf53_0 rfl ?_
  refine v_iload_n dJ9_min_7cf53_1 rfl ?_
  refine w_icmp_gt 9 dJ9_min_7cf53_2 (by decide) (by omega) (by omega) (fun c => ?_) (fun c => ?_)
  · skip
    refine v_iload_n dJ9_min_7cf53_9 rfl ?_
    exact v_iret dJ9_min_7cf53_10 trivial (Nat.le_of_ble_eq_true rfl) (Nat.le_of_ble_eq_true rfl) ⟨by rw [Int.min_eq_right (by omega)], rfl, rfl⟩
  · skip
    refine v_iload_n dJ9_min_7cf53_5 rfl ?_
    refine v_goto 10 dJ9_min_7cf53_6 (by decide) ?_
    exact v_iret dJ9_min_7cf53_10 trivial (Nat.le_of_ble_eq_true rfl) (Nat.le_of_ble_eq_true rfl) ⟨by rw [Int.min_eq_left (by omega)], rfl, rfl⟩
set_option maxHeartbeats 4000000 in
set_option maxRecDepth 100000 in
theorem p_abs {d n : Nat} {a : Int} {h : zH} (ha : -2147483647 ≤ a ∧ a < 2147483648) :
    zM yJ9_abs_0f7a4 cJ9_abs_0f7a4 1 (some .int) d 0 0 [.int (iI a)] h n (fun r h' n' => r = some (.int (iI (a.natAbs : Nat))) ∧ n' = n ∧ h' = h) := by
  refine zM_of zyJ9_abs_0f7a4 rfl (Nat.le_of_ble_eq_true rfl) (fun X hX => ?_)
  refine v_iload_n dJ9_abs_0f7a4_0 rfl ?_
  refine w_if_ge 9 dJ9_abs_0f7a4_1 (by decide) (by omega) (fun c => ?_) (fun c => ?_)
  · skip
    refine v_iload_n dJ9_abs_0f7a4_9 rfl ?_
    exact v_iret dJ9_abs_0f7a4_10 trivial (Nat.le_of_ble_eq_true rfl) (Nat.le_of_ble_eq_true rfl) ⟨by rw [show ((a.natAbs : Nat) : Int) = a from by omega], rfl, rfl⟩
  · skip
    refine v_iload_n dJ9_abs_0f7a4_4 rfl ?_
    refine w_ineg dJ9_abs_0f7a4_5 ?_
    refine v_goto 10 dJ9_abs_0f7a4_6 (by decide) ?_
    exact v_iret dJ9_abs_0f7a4_10 trivial (Nat.le_of_ble_eq_true rfl) (Nat.le_of_ble_eq_true rfl) ⟨by rw [show ((a.natAbs : Nat) : Int) = -a from by omega], rfl, rfl⟩
def cmpI (a b : Int) : Int := if a < b then -1 else if a = b then 0 else 1
set_option maxHeartbeats 4000000 in
set_option maxRecDepth 100000 in
theorem p_cmpL {d n : Nat} {a b : Int} {h : zH} (ha : -9223372036854775808 ≤ a ∧ a < 9223372036854775808) (hb : -9223372036854775808 ≤ b ∧ b < 9223372036854775808) :
    zM yJ13_compare_74951 cJ13_compare_74951 4 (some .int) d 0 0 [.long (jL a), .long (jL b)] h n (fun r h' n' => r = some (.int (iI (cmpI a b))) ∧ n' = n ∧ h' = h) := by
  refine zM_of zyJ13_compare_74951 rfl (Nat.le_of_ble_eq_true rfl) (fun X hX => ?_)
  refine v_lload_n dJ13_compare_74951_0 rfl ?_
  refine v_lload_n dJ13_compare_74951_1 rfl ?_
  refine w_lcmp_ge 10 dJ13_compare_74951_2 dJ13_compare_74951_3 (by decide) (by omega) (by omega) (fun c => ?_) (fun c => ?_)
  · skip
    refine v_lload_n dJ13_compare_74951_10 rfl ?_
    refine v_lload_n dJ13_compare_74951_11 rfl ?_
    refine w_lcmp_ne 20 dJ13_compare_74951_12 dJ13_compare_74951_13 (by decide) (by omega) (by omega) (fun c2 => ?_) (fun c2 => ?_)
    · skip
      refine v_iconst (iI 1) dJ13_compare_74951_20 rfl ?_
      exact v_iret dJ13_compare_74951_21 trivial (Nat.le_of_ble_eq_true rfl) (Nat.le_of_ble_eq_true rfl) ⟨by unfold cmpI; rw [if_neg (by omega), if_neg (by omega)], rfl, rfl⟩
    · skip
      refine v_iconst (iI 0) dJ13_compare_74951_16 rfl ?_
      refine v_goto 21 dJ13_compare_74951_17 (by decide) ?_
      exact v_iret dJ13_compare_74951_21 trivial (Nat.le_of_ble_eq_true rfl) (Nat.le_of_ble_eq_true rfl) ⟨by unfold cmpI; rw [if_neg (by omega), if_pos (by omega)], rfl, rfl⟩
  · skip
    refine v_iconst (iI (-1)) dJ13_compare_74951_6 rfl ?_
    refine v_goto 21 dJ13_compare_74951_7 (by decide) ?_
    exact v_iret dJ13_compare_74951_21 trivial (Nat.le_of_ble_eq_true rfl) (Nat.le_of_ble_eq_true rfl) ⟨by unfold cmpI; rw [if_pos (by omega)], rfl, rfl⟩
set_option maxHeartbeats 4000000 in
set_option maxRecDepth 100000 in
theorem p_bits {d n a b v : Nat} {h : zH} (hw : WD h a b v) (hd : 1 ≤ d) :
    zM yX7_bits cX7_bits 1 (some .int) d 0 0 [.ref a] h n (fun r h' n' => r = some (.int (iI (nb v : Nat))) ∧ n' = n ∧ h' = h) := by
  obtain ⟨u, f, h_a, h_b, hf, hu, hv, ht⟩ := hw
  refine zM_of zyX7_bits rfl (Nat.le_of_ble_eq_true rfl) (fun X hX => ?_)
  refine v_aload_n dX7_bits_0 rfl ?_
  refine v_get fX7_13 dX7_bits_1 h_a (by decide) rfl ?_
  refine w_if_ne 11 dX7_bits_4 (by decide) (by omega) (fun c => ?_) (fun c => ?_)
  · obtain ⟨m, em⟩ : ∃ m, u = m + 1 := ⟨u - 1, by omega⟩
    have hfm := hf m
    rw [em, Nat.add_sub_cancel] at ht
    rw [em] at hv
    refine v_bipush (iI 32) dX7_bits_11 rfl ?_
    refine v_aload_n dX7_bits_13 rfl ?_
    refine v_get fX7_13 dX7_bits_14 h_a (by decide) rfl ?_
    refine w_imul dX7_bits_17 ?_
    refine v_aload_n dX7_bits_18 rfl ?_
    refine v_get fX7_9 dX7_bits_19 h_a (by decide) rfl ?_
    refine v_aload_n dX7_bits_22 rfl ?_
    refine v_get fX7_13 dX7_bits_23 h_a (by decide) rfl ?_
    refine v_iconst (iI 1) dX7_bits_26 rfl ?_
    refine w_isub dX7_bits_27 ?_
    refine w_nald dX7_bits_28 h_b m (by omega) (by omega) (by decide) ?_
    refine v_cS (av := [.int (iI (f m : Nat))]) (st := [.int (iI (32 * (u:Nat)))]) zyJ6_numberOfLeadingZeros_0f7a4 lX7_28 (p_nlz (d := 0) (x := f m) hfm (by omega)) dX7_bits_29 rfl rfl (Nat.le_of_ble_eq_true rfl) (by omega) (Nat.le_of_ble_eq_true rfl) (Nat.le_of_ble_eq_true rfl) (Or.inl (fun _ _ _ q => ZN q)) (fun r9 K1 n9 q9 => ?_)
    obtain ⟨rfl, q9n, q9h⟩ := q9
    have q9n := q9n.symm
    subst q9n
    have q9h := q9h.symm
    subst q9h
    have h0 : f m ≠ 0 := by exact ht.resolve_left (by omega)
    have e : nb v = nb (f m) + 32 * m := by
      rw [← hv, show wv f (m + 1) = f m * 2 ^ (32 * m) + wv f m from Nat.add_comm _ _]
      exact nb_up h0 (wv_lt hf m)
    have e2 : nb (f m) ≤ 32 := nb_le hfm
    refine w_isub dX7_bits_32 ?_
    exact v_iret dX7_bits_33 trivial (Nat.le_of_ble_eq_true rfl) (Nat.le_of_ble_eq_true rfl) ⟨by rw [e, show ((nb (f m) + 32 * m : Nat) : Int) = 32 * ((u : Nat) : Int) - ((32 - nb (f m) : Nat) : Int) from by omega], rfl, rfl⟩
  · skip
    refine v_iconst (iI 0) dX7_bits_7 rfl ?_
    refine v_goto 33 dX7_bits_8 (by decide) ?_
    exact v_iret dX7_bits_33 trivial (Nat.le_of_ble_eq_true rfl) (Nat.le_of_ble_eq_true rfl) ⟨by rw [← hv, show u = 0 from by omega]; rfl, rfl, rfl⟩
