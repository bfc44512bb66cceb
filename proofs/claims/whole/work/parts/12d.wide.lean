/-! Wide: window, anyBelow, lower, cutDigit, against, copy, copyWords -/
theorem win_eq {v w p : Nat} (hp : p < 32) (h0 : 0 < p) : ((v / 2 ^ (32 * w) % 18446744073709551616) / 2 ^ p + wat v (w + 2) * 2 ^ (64 - p)) % 18446744073709551616 = v / 2 ^ (32 * w + p) % 18446744073709551616 := by
  obtain ⟨X, eX⟩ : ∃ X, v / 2 ^ (32 * w) = X := ⟨_, rfl⟩
  have e1 : v / 2 ^ (32 * w + p) = X / 2 ^ p := by rw [Nat.pow_add, ← Nat.div_div_eq_div_mul, eX]
  have e2 : wat v (w + 2) = X / 18446744073709551616 % 4294967296 := by
    unfold wat
    rw [show 32 * (w + 2) = 32 * w + 64 from by omega, Nat.pow_add, ← Nat.div_div_eq_div_mul, eX]
  rw [e1, e2, eX]
  have e3 : (18446744073709551616 : Nat) = 2 ^ (64 - p) * 2 ^ p := by rw [← Nat.pow_add, show 64 - p + p = 64 from by omega]
  have e5 : (X % 18446744073709551616) / 2 ^ p + X / 18446744073709551616 % 4294967296 * 2 ^ (64 - p) = (X % 79228162514264337593543950336) / 2 ^ p := by
    have : X % 79228162514264337593543950336 = X % 18446744073709551616 + (X / 18446744073709551616 % 4294967296 * 2 ^ (64 - p)) * 2 ^ p := by
      rw [Nat.mul_assoc, ← e3, show (79228162514264337593543950336 : Nat) = 18446744073709551616 * 4294967296 from rfl, Nat.mod_mul]; omega
    rw [this, Nat.add_mul_div_right _ _ (p_pos p)]
  rw [e5]
  have e6 : (79228162514264337593543950336 : Nat) = 2 ^ p * 2 ^ (96 - p) := by rw [← Nat.pow_add, show p + (96 - p) = 96 from by omega]
  rw [e6, Nat.mod_mul_right_div_self, show 96 - p = 64 + (32 - p) from by omega, Nat.pow_add, Nat.mod_mul_right_mod]
set_option maxHeartbeats 4000000 in
set_option maxRecDepth 100000 in
theorem p_window {d n a b v t : Nat} {h : zH} (hw : WD h a b v) (hd : 1 ≤ d) (ht : t < 10000) :
    zM yX7_window cX7_window 6 (some .long) d 0 0 [.ref a, .int (iI (t:Nat))] h n (fun r h' n' => r = some (.long (jL (v / 2 ^ t % 18446744073709551616 : Nat))) ∧ n' = n ∧ h' = h) := by
  obtain ⟨u9, f9, h_a, -⟩ := id hw
  refine zM_of zyX7_window rfl (Nat.le_of_ble_eq_true rfl) (fun X hX => ?_)
  obtain ⟨w, p, ew, ep, et⟩ : ∃ w p : Nat, t / 32 = w ∧ t % 32 = p ∧ t = 32 * w + p := ⟨_, _, rfl, rfl, by omega⟩
  refine v_iload_n dX7_window_0 rfl ?_
  refine v_iconst (iI 5) dX7_window_1 rfl ?_
  refine w_ishr dX7_window_2 5 32 rfl rfl (by decide) (by omega) ?_
  refine w_ei (w:Nat) (by omega) ?_
  refine v_istore_n (i := 2) (lv' := [(2, .int (iI (w:Nat))), (0, .ref a), (1, .int (iI (t:Nat)))]) dX7_window_3 rfl (by decide) rfl ?_
  refine v_iload_n dX7_window_4 rfl ?_
  refine v_bipush (iI 31) dX7_window_5 rfl ?_
  refine w_iandm dX7_window_7 5 32 rfl (by decide) rfl ?_
  refine w_ei (p:Nat) (by omega) ?_
  refine v_istore_n (i := 3) (lv' := [(3, .int (iI (p:Nat))), (2, .int (iI (w:Nat))), (0, .ref a), (1, .int (iI (t:Nat)))]) dX7_window_8 rfl (by decide) rfl ?_
  refine v_aload_n dX7_window_9 rfl ?_
  refine v_iload_n dX7_window_10 rfl ?_
  refine v_iconst (iI 1) dX7_window_11 rfl ?_
  refine w_iadd dX7_window_12 ?_
  refine v_cV (av := [.int (iI ((w:Nat) + 1))]) (st := []) zyX7_wordAt lX7_38 h_a rfl (p_wordAt (d := 0) hw (by omega)) dX7_window_13 rfl rfl (Nat.le_of_ble_eq_true rfl) (by omega) (Nat.le_of_ble_eq_true rfl) (Nat.le_of_ble_eq_true rfl) (Or.inl (fun _ _ _ q => ZN q)) (fun r9 K1 n9 q9 => ?_)
  obtain ⟨rfl, q9n, q9h⟩ := q9
  have q9n := q9n.symm
  subst q9n
  have q9h := q9h.symm
  subst q9h
  rw [if_neg (show ¬ (w : Int) + 1 < 0 by omega), show ((w : Int) + 1).toNat = w + 1 from by omega]
  refine v_bipush (iI 32) dX7_window_16 rfl ?_
  refine w_lshl dX7_window_18 32 4294967296 rfl rfl (by decide) ?_
  refine v_aload_n dX7_window_19 rfl ?_
  refine v_iload_n dX7_window_20 rfl ?_
  refine v_cV (av := [.int (iI (w:Nat))]) (st := [.long (jL ((wat v (w + 1):Nat) * 4294967296))]) zyX7_wordAt lX7_38 h_a rfl (p_wordAt (d := 0) hw (by omega)) dX7_window_21 rfl rfl (Nat.le_of_ble_eq_true rfl) (by omega) (Nat.le_of_ble_eq_true rfl) (Nat.le_of_ble_eq_true rfl) (Or.inl (fun _ _ _ q => ZN q)) (fun r9 K2 n9 q9 => ?_)
  obtain ⟨rfl, q9n, q9h⟩ := q9
  have q9n := q9n.symm
  subst q9n
  have q9h := q9h.symm
  subst q9h
  rw [if_neg (show ¬ (w : Int) < 0 by omega), show ((w : Int)).toNat = w from by omega]
  have h1 := wat_lt v w
  refine w_lor dX7_window_24 32 4294967296 rfl (by decide) (by omega) (by omega) ?_
  obtain ⟨Y, eY⟩ : ∃ Y, v / 2 ^ (32 * w) % 18446744073709551616 = Y := ⟨_, rfl⟩
  have hY : Y < 18446744073709551616 := by rw [← eY]; exact Nat.mod_lt _ (by decide)
  refine w_el (Y:Nat) (by rw [← eY, ← pair_at]; simp) ?_
  refine v_lstore (i := 4) (lv' := [(4, .long (jL (Y:Nat))), (3, .int (iI (p:Nat))), (2, .int (iI (w:Nat))), (0, .ref a), (1, .int (iI (t:Nat)))]) dX7_window_25 (by decide) rfl ?_
  refine v_iload_n dX7_window_27 rfl ?_
  refine w_if_ne 36 dX7_window_28 (by decide) (by omega) (fun c1 => ?_) (fun c1 => ?_)
  · skip
    refine v_lload dX7_window_36 rfl ?_
    refine v_iload_n dX7_window_38 rfl ?_
    refine w_lushr dX7_window_39 p (2 ^ p) rfl (by omega) (by omega) (by omega) ?_
    refine v_aload_n dX7_window_40 rfl ?_
    refine v_iload_n dX7_window_41 rfl ?_
    refine v_iconst (iI 2) dX7_window_42 rfl ?_
    refine w_iadd dX7_window_43 ?_
    refine v_cV (av := [.int (iI ((w:Nat) + 2))]) (st := [.long (jL ((Y:Nat) / (2 ^ p)))]) zyX7_wordAt lX7_38 h_a rfl (p_wordAt (d := 0) hw (by omega)) dX7_window_44 rfl rfl (Nat.le_of_ble_eq_true rfl) (by omega) (Nat.le_of_ble_eq_true rfl) (Nat.le_of_ble_eq_true rfl) (Or.inl (fun _ _ _ q => ZN q)) (fun r9 K3 n9 q9 => ?_)
    obtain ⟨rfl, q9n, q9h⟩ := q9
    have q9n := q9n.symm
    subst q9n
    have q9h := q9h.symm
    subst q9h
    rw [if_neg (show ¬ (w : Int) + 2 < 0 by omega), show ((w : Int) + 2).toNat = w + 2 from by omega]
    refine v_bipush (iI 64) dX7_window_47 rfl ?_
    refine v_iload_n dX7_window_49 rfl ?_
    refine w_isub dX7_window_50 ?_
    refine w_lshl dX7_window_51 (64 - p) (2 ^ (64 - p)) rfl (by omega) (by omega) ?_
    have eP : ((2 : Int) ^ p) = ((2 ^ p : Nat) : Int) := by simp
    have eQ : ((2 : Int) ^ (64 - p)) = ((2 ^ (64 - p) : Nat) : Int) := by simp
    have hY2 : Y / 2 ^ p < 2 ^ (64 - p) := Nat.div_lt_of_lt_mul (by rw [← Nat.pow_add, show p + (64 - p) = 64 from by omega]; exact hY)
    refine w_lor2 dX7_window_52 (64 - p) (2 ^ (64 - p)) rfl (by omega) (by rw [Int.mul_emod_left]) (by rw [eP, eQ, ← Int.natCast_ediv]; exact ⟨Int.natCast_nonneg _, Int.ofNat_lt.mpr hY2⟩) ?_
    refine w_topl (v / 2 ^ t % 18446744073709551616 : Nat) (by rw [et, ← win_eq (by omega) (by omega), eY, eP, eQ, ← Int.natCast_mul, ← Int.natCast_ediv, ← Int.natCast_add, Nat.add_comm (Y / 2 ^ p)]; generalize wat v (w + 2) * 2 ^ (64 - p) + Y / 2 ^ p = Z; omega) ?_
    exact v_lret dX7_window_53 trivial (Nat.le_of_ble_eq_true rfl) (Nat.le_of_ble_eq_true rfl) ⟨rfl, rfl, rfl⟩
  · skip
    refine v_lload dX7_window_31 rfl ?_
    refine v_goto 53 dX7_window_33 (by decide) ?_
    exact v_lret dX7_window_53 trivial (Nat.le_of_ble_eq_true rfl) (Nat.le_of_ble_eq_true rfl) ⟨by rw [← eY, et, show p = 0 from by omega, Nat.add_zero], rfl, rfl⟩
theorem and_low {x p : Nat} (hp : p < 32) (w : Nat) : wat x w % 2 ^ p = x / 2 ^ (32 * w) % 2 ^ p := by
  unfold wat
  rw [show (4294967296 : Nat) = 2 ^ p * 2 ^ (32 - p) from by rw [← Nat.pow_add, show p + (32 - p) = 32 from by omega], Nat.mod_mul_right_mod]
set_option maxHeartbeats 4000000 in
set_option maxRecDepth 100000 in
theorem p_anyBelow {d n a b v t : Nat} {h : zH} (hw : WD h a b v) (hd : 1 ≤ d) (ht : t < 10000) :
    zM yX7_anyBelow cX7_anyBelow 4 (some .boolean) d 0 0 [.ref a, .int (iI (t:Nat))] h n (fun r h' n' => r = some (.int (iI (bz (decide (v % 2 ^ t ≠ 0))))) ∧ n' = n ∧ h' = h) := by
  obtain ⟨u, f, h_a, h_b, hf, hu, hv, -⟩ := id hw
  refine zM_of zyX7_anyBelow rfl (Nat.le_of_ble_eq_true rfl) (fun X hX => ?_)
  obtain ⟨w, p, ew, ep, et⟩ : ∃ w p : Nat, t / 32 = w ∧ t % 32 = p ∧ t = 32 * w + p := ⟨_, _, rfl, rfl, by omega⟩
  refine v_iload_n dX7_anyBelow_0 rfl ?_
  refine v_iconst (iI 5) dX7_anyBelow_1 rfl ?_
  refine w_ishr dX7_anyBelow_2 5 32 rfl rfl (by decide) (by omega) ?_
  refine w_ei (w:Nat) (by omega) ?_
  refine v_istore_n (i := 2) (lv' := [(2, .int (iI (w:Nat))), (0, .ref a), (1, .int (iI (t:Nat)))]) dX7_anyBelow_3 rfl (by decide) rfl ?_
  refine v_iconst (iI 0) dX7_anyBelow_4 rfl ?_
  refine v_istore_n (i := 3) (lv' := [(3, .int (iI 0)), (2, .int (iI (w:Nat))), (0, .ref a), (1, .int (iI (t:Nat)))]) dX7_anyBelow_5 rfl (by decide) rfl ?_
  refine w_sub (lv2 := [(0, .ref a), (1, .int (iI (t:Nat))), (2, .int (iI (w:Nat))), (3, .int (iI 0))]) [2, 3, 1, 0] rfl ?_
  have fin : v % 2 ^ (32 * w) = 0 → ∀ i : Int, (zV X (fun r h' n' => r = some (.int (iI (bz (decide (v % 2 ^ t ≠ 0))))) ∧ n' = n ∧ h' = h) cX7_anyBelow 4 RX7 (some .boolean) d 0 0 36 [(0, .ref a), (1, .int (iI (t:Nat))), (2, .int (iI (w:Nat))), (3, .int (iI i))] [] h n 0 0) := by
    intro h0 i
    refine v_aload_n dX7_anyBelow_36 rfl ?_
    refine v_iload_n dX7_anyBelow_37 rfl ?_
    refine v_cV (av := [.int (iI (w:Nat))]) (st := []) zyX7_wordAt lX7_38 h_a rfl (p_wordAt (d := 0) hw (by omega)) dX7_anyBelow_38 rfl rfl (Nat.le_of_ble_eq_true rfl) (by omega) (Nat.le_of_ble_eq_true rfl) (Nat.le_of_ble_eq_true rfl) (Or.inl (fun _ _ _ q => ZN q)) (fun r9 K1 n9 q9 => ?_)
    obtain ⟨rfl, q9n, q9h⟩ := q9
    have q9n := q9n.symm
    subst q9n
    have q9h := q9h.symm
    subst q9h
    rw [if_neg (show ¬ (w : Int) < 0 by omega), show ((w : Int)).toNat = w from by omega]
    refine v_lconst (jL 1) dX7_anyBelow_41 rfl ?_
    refine v_iload_n dX7_anyBelow_42 rfl ?_
    refine v_bipush (iI 31) dX7_anyBelow_43 rfl ?_
    refine w_iandm dX7_anyBelow_45 5 32 rfl (by decide) rfl ?_
    refine w_ei (p:Nat) (by omega) ?_
    refine w_lshl dX7_anyBelow_46 p (2 ^ p) rfl (by omega) (by omega) ?_
    refine v_lconst (jL 1) dX7_anyBelow_47 rfl ?_
    refine w_lsub dX7_anyBelow_48 ?_
    refine w_landm dX7_anyBelow_49 p (2 ^ p) rfl (by omega) (by rw [Int.one_mul]) ?_
    have e : v % 2 ^ t = 2 ^ (32 * w) * (wat v w % 2 ^ p) := by rw [et, Nat.pow_add, Nat.mod_mul, h0, Nat.zero_add, and_low (by omega)]
    have hp := p_pos (32 * w)
    have hq := wat_lt v w
    have hr := Nat.mod_le (wat v w) (2 ^ p)
    refine w_el (wat v w % 2 ^ p:Nat) (by simp) ?_
    refine v_lconst (jL 0) dX7_anyBelow_50 rfl ?_
    refine w_lcmp_eq 59 dX7_anyBelow_51 dX7_anyBelow_52 (by decide) (by omega) (by decide) (fun c1 => ?_) (fun c1 => ?_)
    · skip
      refine v_iconst (iI 0) dX7_anyBelow_59 rfl ?_
      refine w_ei (bz false) rfl ?_
      exact v_iret dX7_anyBelow_60 bz_ret (Nat.le_of_ble_eq_true rfl) (Nat.le_of_ble_eq_true rfl) ⟨by rw [decide_eq_false]; rw [e, show wat v w % 2 ^ p = 0 from by omega]; simp, rfl, rfl⟩
    · skip
      refine v_iconst (iI 1) dX7_anyBelow_55 rfl ?_
      refine v_goto 60 dX7_anyBelow_56 (by decide) ?_
      refine w_ei (bz true) rfl ?_
      exact v_iret dX7_anyBelow_60 bz_ret (Nat.le_of_ble_eq_true rfl) (Nat.le_of_ble_eq_true rfl) ⟨by rw [decide_eq_true]; rw [e]; exact Nat.mul_ne_zero (by omega) (by omega), rfl, rfl⟩
  have loop : ∀ (m k : Nat) (i : Int), k + m = w → i = k → v % 2 ^ (32 * k) = 0 → (zV X (fun r h' n' => r = some (.int (iI (bz (decide (v % 2 ^ t ≠ 0))))) ∧ n' = n ∧ h' = h) cX7_anyBelow 4 RX7 (some .boolean) d 0 0 6 [(0, .ref a), (1, .int (iI (t:Nat))), (2, .int (iI (w:Nat))), (3, .int (iI i))] [] h n 0 0) := by
    intro m
    induction m with
    | zero =>
      intro k i hk ei inv
      refine v_iload_n dX7_anyBelow_6 rfl ?_
      refine v_iload_n dX7_anyBelow_7 rfl ?_
      refine w_icmp_ge 36 dX7_anyBelow_8 (by decide) (by omega) (by omega) (fun c1 => ?_) (fun c1 => ?_)
      · exact fin (by rw [← inv]; congr; omega) _
      · exact absurd c1 (by omega)
    | succ m ih =>
      intro k i hk ei inv
      refine v_iload_n dX7_anyBelow_6 rfl ?_
      refine v_iload_n dX7_anyBelow_7 rfl ?_
      refine w_icmp_ge 36 dX7_anyBelow_8 (by decide) (by omega) (by omega) (fun c1 => ?_) (fun c1 => ?_)
      · exact absurd c1 (by omega)
      · skip
        refine v_iload_n dX7_anyBelow_11 rfl ?_
        refine v_aload_n dX7_anyBelow_12 rfl ?_
        refine v_get fX7_13 dX7_anyBelow_13 h_a (by decide) rfl ?_
        refine w_icmp_ge 36 dX7_anyBelow_16 (by decide) (by omega) (by omega) (fun c2 => ?_) (fun c2 => ?_)
        · have e0 : v = 0 := by
            have h9 : v < 2 ^ (32 * k) := Nat.lt_of_lt_of_le (by rw [← hv]; exact wv_lt hf u) (Nat.pow_le_pow_right (by decide) (by omega))
            rw [Nat.mod_eq_of_lt h9] at inv; exact inv
          exact fin (by rw [e0, Nat.zero_mod]) _
        · have hk9 := hf k
          have e9 : v % 2 ^ (32 * (k + 1)) = 2 ^ (32 * k) * f k := by
            rw [p32, Nat.mul_comm 4294967296, Nat.mod_mul, inv, Nat.zero_add, ← wv_digit hf (show k < u by omega), hv]; rfl
          refine v_aload_n dX7_anyBelow_19 rfl ?_
          refine v_get fX7_9 dX7_anyBelow_20 h_a (by decide) rfl ?_
          refine v_iload_n dX7_anyBelow_23 rfl ?_
          refine w_nald dX7_anyBelow_24 h_b k (by omega) (by omega) (by decide) ?_
          refine w_topi ((f k : Int) - (if f k < 2147483648 then 0 else 4294967296)) (by split <;> omega) ?_
          refine w_if_eq 30 dX7_anyBelow_25 (by decide) (by split <;> omega) (fun c3 => ?_) (fun c3 => ?_)
          · have e8 : f k = 0 := by split at c3 <;> omega
            refine w_iinc (lv' := [(3, .int (iI (i + 1))), (0, .ref a), (1, .int (iI (t:Nat))), (2, .int (iI (w:Nat)))]) dX7_anyBelow_30 rfl (by decide) rfl ?_
            refine v_goto 6 dX7_anyBelow_33 (by decide) ?_
            refine w_sub (lv2 := [(0, .ref a), (1, .int (iI (t:Nat))), (2, .int (iI (w:Nat))), (3, .int (iI (i + 1)))]) [1, 2, 3, 0] rfl ?_
            exact ih (k + 1) (i + 1) (by omega) (by omega) (by rw [e9, e8]; rfl)
          · have e8 : f k ≠ 0 := fun e => c3 (by rw [e]; rfl)
            refine v_iconst (iI 1) dX7_anyBelow_28 rfl ?_
            refine w_ei (bz true) rfl ?_
            exact v_iret dX7_anyBelow_29 bz_ret (Nat.le_of_ble_eq_true rfl) (Nat.le_of_ble_eq_true rfl) ⟨by
              rw [decide_eq_true]
              intro q
              have q1 : v % 2 ^ (32 * (k + 1)) = v % 2 ^ t % 2 ^ (32 * (k + 1)) := by
                rw [Nat.mod_mod_of_dvd]
                exact Nat.pow_dvd_pow 2 (by omega)
              rw [q, Nat.zero_mod, e9] at q1
              have := p_pos (32 * k)
              exact Nat.mul_ne_zero (by omega) e8 q1, rfl, rfl⟩
  exact loop w 0 0 (by omega) rfl (by rw [Nat.mul_zero, Nat.pow_zero, Nat.mod_one])
