/-! The acts: products, fused sums, quotients -/
def fusA (n : Nat) (n1 m1 : Bool) (s1 : Nat) (x1 : Int) (n2 m2 : Bool) (s2 : Nat) (x2 : Int) (n3 m3 : Bool) (s3 : Nat) (x3 : Int) : Nat := cond (n1 || n2 || n3) (2 ^ (n - 1)) (stl n false (pl2 (m1 ^^ m2) (s1 * s2 * 2 ^ (x1 + x2 + 240).toNat) m3 (s3 * 2 ^ (x3 + 240).toNat)))
set_option maxHeartbeats 4000000 in
set_option maxRecDepth 100000 in
theorem p_fusedOf {d n w s1 s2 s3 : Nat} {n1 m1 n2 m2 n3 m3 : Bool} {x1 x2 x3 : Int} {h : zH} (hA : AC h) (hp1 : PO h 12 n1 m1 s1 x1) (hp2 : PO h 13 n2 m2 s2 x2) (hp3 : PO h 14 n3 m3 s3 x3) (hd : 5 ≤ d) (hw : 3 ≤ w ∧ w ≤ 32) :
    zM yX0_fusedOf cX0_fusedOf 5 (some .long) d 0 0 [.ref 15, .ref 12, .ref 13, .ref 14, .int (iI (w:Nat))] h n (fun r h' n' => r = some (.long (jL (fusA w n1 m1 s1 x1 n2 m2 s2 x2 n3 m3 s3 x3 : Nat))) ∧ n' = n ∧ AC h' ∧ zFr ACS h h') := by
  obtain ⟨h_15, ⟨qn, qV, hQ⟩, h_18, ⟨u0, hU⟩, ⟨l0, hL⟩, F0, B0, mo0, h_23, hwF, hwB, t0, hwT⟩ := hA
  obtain ⟨h_12, hs1, hx1, hx1'⟩ := hp1
  obtain ⟨h_13, hs2, hx2, hx2'⟩ := hp2
  obtain ⟨h_14, hs3, hx3, hx3'⟩ := hp3
  refine zM_of zyX0_fusedOf rfl (Nat.le_of_ble_eq_true rfl) (fun X hX => ?_)
  have fr : zFr ACS h h := zFr.rf
  refine v_aload_n dX0_fusedOf_0 rfl ?_
  refine v_get fX0_10 dX0_fusedOf_1 h_15 (by decide) rfl ?_
  obtain ⟨f916, h_16, -⟩ := id hQ
  refine v_cV (av := []) (st := []) zyX3_empty lX0_81 h_16 rfl (p_empty (d := 4) hQ) dX0_fusedOf_4 rfl rfl (Nat.le_of_ble_eq_true rfl) (by omega) (Nat.le_of_ble_eq_true rfl) (Nat.le_of_ble_eq_true rfl) (Or.inl (fun _ _ _ q => ZN q)) (fun r9 H1 n9 q9 => ?_)
  obtain ⟨rfl, q9n, hQ, fr9⟩ := q9
  have q9n := q9n.symm
  subst q9n
  have h_15 := (fr9 15 (by decide)).trans h_15
  have h_18 := (fr9 18 (by decide)).trans h_18
  have h_23 := (fr9 23 (by decide)).trans h_23
  have h_12 := (fr9 12 (by decide)).trans h_12
  have h_13 := (fr9 13 (by decide)).trans h_13
  have h_14 := (fr9 14 (by decide)).trans h_14
  have hU := hU.fr fr9 (by decide) (by decide)
  have hL := hL.fr fr9 (by decide) (by decide)
  have hwF := hwF.fr fr9 (by decide) (by decide)
  have hwB := hwB.fr fr9 (by decide) (by decide)
  have hwT := hwT.fr fr9 (by decide) (by decide)
  have fr := fr.tr fr9 (by decide)
  refine v_aload_n dX0_fusedOf_7 rfl ?_
  refine v_get fX0_10 dX0_fusedOf_8 h_15 (by decide) rfl ?_
  refine v_aload_n dX0_fusedOf_11 rfl ?_
  refine v_aload_n dX0_fusedOf_12 rfl ?_
  refine v_iconst (iI 0) dX0_fusedOf_13 rfl ?_
  refine w_ei (bz false) rfl ?_
  obtain ⟨f916, h_16, -⟩ := id hQ
  refine v_cV (av := [.ref 12, .ref 13, .int (iI (bz false))]) (st := []) zyX3_bring lX0_84 h_16 rfl (p_bring (d := 4) (sh := (x1 + x2 + 240).toNat) hQ h_12 h_13 (by decide) (by omega) (by omega) (by omega) (by omega) (by omega)) dX0_fusedOf_14 rfl rfl (Nat.le_of_ble_eq_true rfl) (by omega) (Nat.le_of_ble_eq_true rfl) (Nat.le_of_ble_eq_true rfl) (Or.inl (fun _ _ _ q => ZN q)) (fun r9 H2 n9 q9 => ?_)
  obtain ⟨rfl, q9n, hQ, fr8⟩ := q9
  have q9n := q9n.symm
  subst q9n
  have h_15 := (fr8 15 (by decide)).trans h_15
  have h_18 := (fr8 18 (by decide)).trans h_18
  have h_23 := (fr8 23 (by decide)).trans h_23
  have h_12 := (fr8 12 (by decide)).trans h_12
  have h_13 := (fr8 13 (by decide)).trans h_13
  have h_14 := (fr8 14 (by decide)).trans h_14
  have hU := hU.fr fr8 (by decide) (by decide)
  have hL := hL.fr fr8 (by decide) (by decide)
  have hwF := hwF.fr fr8 (by decide) (by decide)
  have hwB := hwB.fr fr8 (by decide) (by decide)
  have hwT := hwT.fr fr8 (by decide) (by decide)
  have fr := fr.tr fr8 (by decide)
  refine v_aload_n dX0_fusedOf_17 rfl ?_
  refine v_get fX0_10 dX0_fusedOf_18 h_15 (by decide) rfl ?_
  refine v_aload_n dX0_fusedOf_21 rfl ?_
  refine v_aload_n dX0_fusedOf_22 rfl ?_
  refine v_get fX0_19 dX0_fusedOf_23 h_15 (by decide) rfl ?_
  refine v_iconst (iI 0) dX0_fusedOf_26 rfl ?_
  refine w_ei (bz false) rfl ?_
  obtain ⟨f916, h_16, -⟩ := id hQ
  refine v_cV (av := [.ref 14, .ref 18, .int (iI (bz false))]) (st := []) zyX3_bring lX0_84 h_16 rfl (p_bring (d := 4) (s2 := 1) (sh := (x3 + 240).toNat) hQ h_14 h_18 (by decide) (by omega) (by decide) (by omega) (by decide) (by omega)) dX0_fusedOf_27 rfl rfl (Nat.le_of_ble_eq_true rfl) (by omega) (Nat.le_of_ble_eq_true rfl) (Nat.le_of_ble_eq_true rfl) (Or.inl (fun _ _ _ q => ZN q)) (fun r9 H3 n9 q9 => ?_)
  obtain ⟨rfl, q9n, hQ, fr7⟩ := q9
  have q9n := q9n.symm
  subst q9n
  have h_15 := (fr7 15 (by decide)).trans h_15
  have h_18 := (fr7 18 (by decide)).trans h_18
  have h_23 := (fr7 23 (by decide)).trans h_23
  have h_12 := (fr7 12 (by decide)).trans h_12
  have h_13 := (fr7 13 (by decide)).trans h_13
  have h_14 := (fr7 14 (by decide)).trans h_14
  have hU := hU.fr fr7 (by decide) (by decide)
  have hL := hL.fr fr7 (by decide) (by decide)
  have hwF := hwF.fr fr7 (by decide) (by decide)
  have hwB := hwB.fr fr7 (by decide) (by decide)
  have hwT := hwT.fr fr7 (by decide) (by decide)
  have fr := fr.tr fr7 (by decide)
  refine v_aload_n dX0_fusedOf_30 rfl ?_
  refine v_aload_n dX0_fusedOf_31 rfl ?_
  refine v_get fX0_10 dX0_fusedOf_32 h_15 (by decide) rfl ?_
  refine v_iload dX0_fusedOf_35 rfl ?_
  refine v_cV (av := [.ref 16, .int (iI (w:Nat))]) (st := []) zyX0_settled lX0_88 h_15 rfl (p_settled (d := 4) h_15 hU hQ (by decide) (by decide) hw) dX0_fusedOf_37 rfl rfl (Nat.le_of_ble_eq_true rfl) (by omega) (Nat.le_of_ble_eq_true rfl) (Nat.le_of_ble_eq_true rfl) (Or.inl (fun _ _ _ q => ZN q)) (fun r9 H4 n9 q9 => ?_)
  obtain ⟨rfl, q9n, ⟨u1, hU⟩, fr6⟩ := q9
  have q9n := q9n.symm
  subst q9n
  have e9 : stl w (false || n1 || n2 || n3 || false) (cond (false || n1 || n2 || n3 || false) (cond (false || n1 || n2) 0 (qad 0 (false ^^ m1 ^^ m2) (s1 * s2 * 2 ^ (x1 + x2 + 240).toNat))) (qad (cond (false || n1 || n2) 0 (qad 0 (false ^^ m1 ^^ m2) (s1 * s2 * 2 ^ (x1 + x2 + 240).toNat))) (false ^^ m3 ^^ false) (s3 * 1 * 2 ^ (x3 + 240).toNat))) = fusA w n1 m1 s1 x1 n2 m2 s2 x2 n3 m3 s3 x3 := by
    unfold fusA pl2
    rw [Nat.mul_one, Bool.xor_false, Bool.false_xor, Bool.false_xor]
    cases n1 <;> cases n2 <;> cases n3 <;> rfl
  rw [e9]
  have h_15 := (fr6 15 (by decide)).trans h_15
  have h_18 := (fr6 18 (by decide)).trans h_18
  have h_23 := (fr6 23 (by decide)).trans h_23
  have h_12 := (fr6 12 (by decide)).trans h_12
  have h_13 := (fr6 13 (by decide)).trans h_13
  have h_14 := (fr6 14 (by decide)).trans h_14
  have hL := hL.fr fr6 (by decide) (by decide)
  have hwF := hwF.fr fr6 (by decide) (by decide)
  have hwB := hwB.fr fr6 (by decide) (by decide)
  have hwT := hwT.fr fr6 (by decide) (by decide)
  have fr := fr.tr fr6 (by decide)
  have hQ := hQ.fr fr6 (by decide) (by decide)
  exact v_lret dX0_fusedOf_40 trivial (Nat.le_of_ble_eq_true rfl) (Nat.le_of_ble_eq_true rfl) ⟨rfl, rfl, ⟨h_15, ⟨_, _, hQ⟩, h_18, ⟨_, hU⟩, ⟨_, hL⟩, _, _, _, h_23, hwF, hwB, _, hwT⟩, fr⟩
def prdA (n : Nat) (n1 m1 : Bool) (s1 : Nat) (x1 : Int) (n2 m2 : Bool) (s2 : Nat) (x2 : Int) : Nat := cond (n1 || n2) (2 ^ (n - 1)) (rlg n (m1 ^^ m2) (s1 * s2) (x1 + x2) false)
set_option maxHeartbeats 4000000 in
set_option maxRecDepth 100000 in
theorem p_productOf {d n w s1 s2 : Nat} {n1 m1 n2 m2 : Bool} {x1 x2 : Int} {h : zH} (hp1 : PO h 12 n1 m1 s1 x1) (hp2 : PO h 13 n2 m2 s2 x2) (hd : 3 ≤ d) (hw : 3 ≤ w ∧ w ≤ 32) :
    zM yX0_productOf cX0_productOf 5 (some .long) d 0 0 [.ref 15, .ref 12, .ref 13, .int (iI (w:Nat))] h n (fun r h' n' => r = some (.long (jL (prdA w n1 m1 s1 x1 n2 m2 s2 x2 : Nat))) ∧ n' = n ∧ h' = h) := by
  obtain ⟨h_12, hs1, hx1, hx1'⟩ := hp1
  obtain ⟨h_13, hs2, hx2, hx2'⟩ := hp2
  refine zM_of zyX0_productOf rfl (Nat.le_of_ble_eq_true rfl) (fun X hX => ?_)
  have nr : (n1 || n2) = true → (zV X (fun r h' n' => r = some (.long (jL (prdA w n1 m1 s1 x1 n2 m2 s2 x2 : Nat))) ∧ n' = n ∧ h' = h) cX0_productOf 5 RX0 (some .long) d 0 0 14 [(0, .ref 15), (1, .ref 12), (2, .ref 13), (3, .int (iI (w:Nat)))] [] h n 0 0) := by
    intro hn
    refine v_iload_n dX0_productOf_14 rfl ?_
    refine v_cS (av := [.int (iI (w:Nat))]) (st := []) zyX4_notReal lX0_47 (p_notReal (d := 2) (by omega)) dX0_productOf_15 rfl rfl (Nat.le_of_ble_eq_true rfl) (by omega) (Nat.le_of_ble_eq_true rfl) (Nat.le_of_ble_eq_true rfl) (Or.inl (fun _ _ _ q => ZN q)) (fun r9 K1 n9 q9 => ?_)
    obtain ⟨rfl, q9n, q9h⟩ := q9
    have q9n := q9n.symm
    subst q9n
    have q9h := q9h.symm
    subst q9h
    exact v_lret dX0_productOf_18 trivial (Nat.le_of_ble_eq_true rfl) (Nat.le_of_ble_eq_true rfl) ⟨by unfold prdA; rw [hn, cond_true], rfl, rfl⟩
  refine v_aload_n dX0_productOf_0 rfl ?_
  refine v_get fX0_43 dX0_productOf_1 h_12 (by decide) rfl ?_
  refine w_ifb_ne 14 dX0_productOf_4 (by decide) (fun c1 => ?_) (fun c1 => ?_)
  · exact nr (by rw [c1]; rfl)
  · skip
    refine v_aload_n dX0_productOf_7 rfl ?_
    refine v_get fX0_43 dX0_productOf_8 h_13 (by decide) rfl ?_
    refine w_ifb_eq 19 dX0_productOf_11 (by decide) (fun c2 => ?_) (fun c2 => ?_)
    · have hp : s1 * s2 < 9223372036854775808 := Nat.lt_of_le_of_lt (Nat.mul_le_mul (show s1 ≤ 1073741824 by omega) (show s2 ≤ 1073741824 by omega)) (by decide)
      refine v_aload_n dX0_productOf_19 rfl ?_
      refine v_get fX0_60 dX0_productOf_20 h_12 (by decide) rfl ?_
      refine v_aload_n dX0_productOf_23 rfl ?_
      refine v_get fX0_60 dX0_productOf_24 h_13 (by decide) rfl ?_
      refine w_iadd dX0_productOf_27 ?_
      refine v_istore (i := 4) (lv' := [(4, .int (iI (x1 + x2))), (0, .ref 15), (1, .ref 12), (2, .ref 13), (3, .int (iI (w:Nat)))]) dX0_productOf_28 (by decide) rfl ?_
      refine v_iload_n dX0_productOf_30 rfl ?_
      refine v_aload_n dX0_productOf_31 rfl ?_
      refine v_get fX0_53 dX0_productOf_32 h_12 (by decide) rfl ?_
      refine v_aload_n dX0_productOf_35 rfl ?_
      refine v_get fX0_53 dX0_productOf_36 h_13 (by decide) rfl ?_
      refine w_bxor dX0_productOf_39 ?_
      refine v_aload_n dX0_productOf_40 rfl ?_
      refine v_get fX0_56 dX0_productOf_41 h_12 (by decide) rfl ?_
      refine v_aload_n dX0_productOf_44 rfl ?_
      refine v_get fX0_56 dX0_productOf_45 h_13 (by decide) rfl ?_
      refine w_lmul dX0_productOf_48 ?_
      refine w_el (s1 * s2:Nat) (by rw [Int.natCast_mul]) ?_
      refine v_iload dX0_productOf_49 rfl ?_
      refine v_iconst (iI 0) dX0_productOf_51 rfl ?_
      refine w_ei (bz false) rfl ?_
      refine v_cS (av := [.int (iI (w:Nat)), .int (iI (bz (m1 ^^ m2))), .long (jL (s1 * s2:Nat)), .int (iI (x1 + x2)), .int (iI (bz false))]) (st := []) zyX4_ofLong lX0_64 (p_ofLong (d := 2) (by decide) hw hp (by omega)) dX0_productOf_52 rfl rfl (Nat.le_of_ble_eq_true rfl) (by omega) (Nat.le_of_ble_eq_true rfl) (Nat.le_of_ble_eq_true rfl) (Or.inl (fun _ _ _ q => ZN q)) (fun r9 K1 n9 q9 => ?_)
      obtain ⟨rfl, q9n, q9h⟩ := q9
      have q9n := q9n.symm
      subst q9n
      have q9h := q9h.symm
      subst q9h
      exact v_lret dX0_productOf_55 trivial (Nat.le_of_ble_eq_true rfl) (Nat.le_of_ble_eq_true rfl) ⟨by unfold prdA; rw [c1, c2]; rfl, rfl, rfl⟩
    · exact nr (by rw [c2, Bool.or_true])
theorem nb_mul_lt {v t m : Nat} (h : nb v + t ≤ m) : v * 2 ^ t < 2 ^ m := by
  have h1 := Nat.mul_lt_mul_of_pos_right (nb_hi v) (p_pos t)
  rw [← Nat.pow_add] at h1
  exact Nat.lt_of_lt_of_le h1 (Nat.pow_le_pow_right (by decide) h)
/-- how far a quotient is moved up -/
def lft (v1 v2 : Nat) : Int := 31 - (nb v1 : Nat) + (nb v2 : Nat)
def dF (v1 v2 : Nat) : Nat := v2 * 2 ^ (-lft v1 v2).toNat
def dB (v1 v2 : Nat) : Nat := v1 * 2 ^ (lft v1 v2).toNat
def dS (v1 v2 : Nat) : Nat := skf (dF v1 v2) (dB v1 v2) 1 32 0
/-- the rounding of v1 / v2 2^X -/
def dvA (n : Nat) (mi : Bool) (v1 v2 : Nat) (X : Int) : Nat := if v1 = 0 then 0 else rlg n mi (dS v1 v2) (X - lft v1 v2) (decide (dS v1 v2 = 0 ∨ dF v1 v2 * (dS v1 v2) ^ 1 < dB v1 v2))
set_option maxHeartbeats 4000000 in
set_option maxRecDepth 100000 in
theorem p_divided {d n w v1 v2 : Nat} {mi : Bool} {X9 : Int} {h : zH} (hA : AC h) (hU : WD h 19 20 v1) (hL : WD h 21 22 v2) (h20 : v2 ≠ 0) (hb1 : nb v1 ≤ 511) (hb2 : nb v2 ≤ 480) (hx : -10000 ≤ X9 ∧ X9 ≤ 10000) (hd : 4 ≤ d) (hw : 3 ≤ w ∧ w ≤ 32) :
    zM yX0_divided cX0_divided 7 (some .long) d 0 0 [.ref 15, .int (iI X9), .int (iI (bz mi)), .int (iI (w:Nat))] h n (fun r h' n' => r = some (.long (jL (dvA w mi v1 v2 X9 : Nat))) ∧ n' = n ∧ AC h' ∧ zFr ACS h h') := by
  obtain ⟨h_15, ⟨qn, qV, hQ⟩, h_18, -, -, F0, B0, mo0, h_23, hwF, hwB, t0, hwT⟩ := id hA
  refine zM_of zyX0_divided rfl (Nat.le_of_ble_eq_true rfl) (fun X hX => ?_)
  have fr : zFr ACS h h := zFr.rf
  refine v_aload_n dX0_divided_0 rfl ?_
  refine v_get fX0_29 dX0_divided_1 h_15 (by decide) rfl ?_
  obtain ⟨u919, f919, h_19, -⟩ := id hU
  refine v_cV (av := []) (st := []) zyX7_isNought lX0_132 h_19 rfl (p_isNought (d := 3) hU) dX0_divided_4 rfl rfl (Nat.le_of_ble_eq_true rfl) (by omega) (Nat.le_of_ble_eq_true rfl) (Nat.le_of_ble_eq_true rfl) (Or.inl (fun _ _ _ q => ZN q)) (fun r9 K1 n9 q9 => ?_)
  obtain ⟨rfl, q9n, q9h⟩ := q9
  have q9n := q9n.symm
  subst q9n
  have q9h := q9h.symm
  subst q9h
  refine w_ifb_eq 12 dX0_divided_7 (by decide) (fun c1 => ?_) (fun c1 => ?_)
  · have c1 := of_decide_eq_false c1
    have hn1 := nb_pos c1
    have hn2 := nb_pos h20
    obtain ⟨lf, elf⟩ : ∃ lf, lft v1 v2 = lf := ⟨_, rfl⟩
    have hlf : lf = 31 - (nb v1 : Nat) + (nb v2 : Nat) := elf.symm
    have eF : dF v1 v2 = v2 * 2 ^ (-lf).toNat := by unfold dF; rw [elf]
    have eB : dB v1 v2 = v1 * 2 ^ lf.toNat := by unfold dB; rw [elf]
    have hF1 : v2 * 2 ^ (-lf).toNat < 2 ^ 480 := nb_mul_lt (by omega)
    have hB1 : v1 * 2 ^ lf.toNat < 2 ^ 512 := nb_mul_lt (by omega)
    refine v_bipush (iI 31) dX0_divided_12 rfl ?_
    refine v_aload_n dX0_divided_14 rfl ?_
    refine v_get fX0_29 dX0_divided_15 h_15 (by decide) rfl ?_
    obtain ⟨u919, f919, h_19, -⟩ := id hU
    refine v_cV (av := []) (st := [.int (iI 31)]) zyX7_bits lX0_129 h_19 rfl (p_bits (d := 3) hU (by decide)) dX0_divided_18 rfl rfl (Nat.le_of_ble_eq_true rfl) (by omega) (Nat.le_of_ble_eq_true rfl) (Nat.le_of_ble_eq_true rfl) (Or.inl (fun _ _ _ q => ZN q)) (fun r9 K2 n9 q9 => ?_)
    obtain ⟨rfl, q9n, q9h⟩ := q9
    have q9n := q9n.symm
    subst q9n
    have q9h := q9h.symm
    subst q9h
    refine w_isub dX0_divided_21 ?_
    refine v_aload_n dX0_divided_22 rfl ?_
    refine v_get fX0_33 dX0_divided_23 h_15 (by decide) rfl ?_
    obtain ⟨u921, f921, h_21, -⟩ := id hL
    refine v_cV (av := []) (st := [.int (iI (31 - (nb v1:Nat)))]) zyX7_bits lX0_129 h_21 rfl (p_bits (d := 3) hL (by decide)) dX0_divided_26 rfl rfl (Nat.le_of_ble_eq_true rfl) (by omega) (Nat.le_of_ble_eq_true rfl) (Nat.le_of_ble_eq_true rfl) (Or.inl (fun _ _ _ q => ZN q)) (fun r9 K3 n9 q9 => ?_)
    obtain ⟨rfl, q9n, q9h⟩ := q9
    have q9n := q9n.symm
    subst q9n
    have q9h := q9h.symm
    subst q9h
    refine w_iadd dX0_divided_29 ?_
    refine w_ei lf (by omega) ?_
    refine v_istore (i := 4) (lv' := [(4, .int (iI lf)), (0, .ref 15), (1, .int (iI X9)), (2, .int (iI (bz mi))), (3, .int (iI (w:Nat)))]) dX0_divided_30 (by decide) rfl ?_
    refine v_aload_n dX0_divided_32 rfl ?_
    refine v_get fX0_39 dX0_divided_33 h_15 (by decide) rfl ?_
    refine v_get fX0_113 dX0_divided_36 h_23 (by decide) rfl ?_
    refine v_aload_n dX0_divided_39 rfl ?_
    refine v_get fX0_33 dX0_divided_40 h_15 (by decide) rfl ?_
    obtain ⟨u924, f924, h_24, -⟩ := id hwF
    refine v_cV (av := [.ref 21]) (st := []) zyX7_copy lX0_146 h_24 rfl (p_copy (d := 3) hwF hL (by decide) (by decide)) dX0_divided_43 rfl rfl (Nat.le_of_ble_eq_true rfl) (by omega) (Nat.le_of_ble_eq_true rfl) (Nat.le_of_ble_eq_true rfl) (Or.inl (fun _ _ _ q => ZN q)) (fun r9 H1 n9 q9 => ?_)
    obtain ⟨rfl, q9n, hwF, fr9⟩ := q9
    have q9n := q9n.symm
    subst q9n
    have h_15 := (fr9 15 (by decide)).trans h_15
    have h_18 := (fr9 18 (by decide)).trans h_18
    have h_23 := (fr9 23 (by decide)).trans h_23
    have hQ := hQ.fr fr9 (by decide) (by decide)
    have hU := hU.fr fr9 (by decide) (by decide)
    have hL := hL.fr fr9 (by decide) (by decide)
    have hwB := hwB.fr fr9 (by decide) (by decide)
    have hwT := hwT.fr fr9 (by decide) (by decide)
    have fr := fr.tr fr9 (by decide)
    refine v_aload_n dX0_divided_46 rfl ?_
    refine v_get fX0_39 dX0_divided_47 h_15 (by decide) rfl ?_
    refine v_get fX0_113 dX0_divided_50 h_23 (by decide) rfl ?_
    refine v_iconst (iI 0) dX0_divided_53 rfl ?_
    refine v_iload dX0_divided_54 rfl ?_
    refine w_ineg dX0_divided_56 ?_
    refine v_cS (av := [.int (iI 0), .int (iI (-lf))]) (st := [.ref 24]) zyJ9_max_7cf53 lX0_104 (p_max (d := 3) (by omega) (by omega)) dX0_divided_57 rfl rfl (Nat.le_of_ble_eq_true rfl) (by omega) (Nat.le_of_ble_eq_true rfl) (Nat.le_of_ble_eq_true rfl) (Or.inl (fun _ _ _ q => ZN q)) (fun r9 K4 n9 q9 => ?_)
    obtain ⟨rfl, q9n, q9h⟩ := q9
    have q9n := q9n.symm
    subst q9n
    have q9h := q9h.symm
    subst q9h
    refine w_ei ((-lf).toNat:Nat) (by omega) ?_
    obtain ⟨u924, f924, h_24, -⟩ := id hwF
    refine v_cV (av := [.int (iI ((-lf).toNat:Nat))]) (st := []) zyX7_shiftUp lX0_119 h_24 rfl (p_shiftUp (d := 3) hwF (by decide) (by omega) (by omega)) dX0_divided_60 rfl rfl (Nat.le_of_ble_eq_true rfl) (by omega) (Nat.le_of_ble_eq_true rfl) (Nat.le_of_ble_eq_true rfl) (Or.inl (fun _ _ _ q => ZN q)) (fun r9 H2 n9 q9 => ?_)
    obtain ⟨rfl, q9n, hwF, fr8⟩ := q9
    have q9n := q9n.symm
    subst q9n
    have h_15 := (fr8 15 (by decide)).trans h_15
    have h_18 := (fr8 18 (by decide)).trans h_18
    have h_23 := (fr8 23 (by decide)).trans h_23
    have hQ := hQ.fr fr8 (by decide) (by decide)
    have hU := hU.fr fr8 (by decide) (by decide)
    have hL := hL.fr fr8 (by decide) (by decide)
    have hwB := hwB.fr fr8 (by decide) (by decide)
    have hwT := hwT.fr fr8 (by decide) (by decide)
    have fr := fr.tr fr8 (by decide)
    refine v_aload_n dX0_divided_63 rfl ?_
    refine v_get fX0_39 dX0_divided_64 h_15 (by decide) rfl ?_
    refine v_get fX0_116 dX0_divided_67 h_23 (by decide) rfl ?_
    refine v_aload_n dX0_divided_70 rfl ?_
    refine v_get fX0_29 dX0_divided_71 h_15 (by decide) rfl ?_
    obtain ⟨u926, f926, h_26, -⟩ := id hwB
    refine v_cV (av := [.ref 19]) (st := []) zyX7_copy lX0_146 h_26 rfl (p_copy (d := 3) hwB hU (by decide) (by decide)) dX0_divided_74 rfl rfl (Nat.le_of_ble_eq_true rfl) (by omega) (Nat.le_of_ble_eq_true rfl) (Nat.le_of_ble_eq_true rfl) (Or.inl (fun _ _ _ q => ZN q)) (fun r9 H3 n9 q9 => ?_)
    obtain ⟨rfl, q9n, hwB, fr7⟩ := q9
    have q9n := q9n.symm
    subst q9n
    have h_15 := (fr7 15 (by decide)).trans h_15
    have h_18 := (fr7 18 (by decide)).trans h_18
    have h_23 := (fr7 23 (by decide)).trans h_23
    have hQ := hQ.fr fr7 (by decide) (by decide)
    have hU := hU.fr fr7 (by decide) (by decide)
    have hL := hL.fr fr7 (by decide) (by decide)
    have hwF := hwF.fr fr7 (by decide) (by decide)
    have hwT := hwT.fr fr7 (by decide) (by decide)
    have fr := fr.tr fr7 (by decide)
    refine v_aload_n dX0_divided_77 rfl ?_
    refine v_get fX0_39 dX0_divided_78 h_15 (by decide) rfl ?_
    refine v_get fX0_116 dX0_divided_81 h_23 (by decide) rfl ?_
    refine v_iconst (iI 0) dX0_divided_84 rfl ?_
    refine v_iload dX0_divided_85 rfl ?_
    refine v_cS (av := [.int (iI 0), .int (iI lf)]) (st := [.ref 26]) zyJ9_max_7cf53 lX0_104 (p_max (d := 3) (by omega) (by omega)) dX0_divided_87 rfl rfl (Nat.le_of_ble_eq_true rfl) (by omega) (Nat.le_of_ble_eq_true rfl) (Nat.le_of_ble_eq_true rfl) (Or.inl (fun _ _ _ q => ZN q)) (fun r9 K5 n9 q9 => ?_)
    obtain ⟨rfl, q9n, q9h⟩ := q9
    have q9n := q9n.symm
    subst q9n
    have q9h := q9h.symm
    subst q9h
    refine w_ei (lf.toNat:Nat) (by omega) ?_
    obtain ⟨u926, f926, h_26, -⟩ := id hwB
    refine v_cV (av := [.int (iI (lf.toNat:Nat))]) (st := []) zyX7_shiftUp lX0_119 h_26 rfl (p_shiftUp (d := 3) hwB (by decide) (by omega) hB1) dX0_divided_90 rfl rfl (Nat.le_of_ble_eq_true rfl) (by omega) (Nat.le_of_ble_eq_true rfl) (Nat.le_of_ble_eq_true rfl) (Or.inl (fun _ _ _ q => ZN q)) (fun r9 H4 n9 q9 => ?_)
    obtain ⟨rfl, q9n, hwB, fr6⟩ := q9
    have q9n := q9n.symm
    subst q9n
    have h_15 := (fr6 15 (by decide)).trans h_15
    have h_18 := (fr6 18 (by decide)).trans h_18
    have h_23 := (fr6 23 (by decide)).trans h_23
    have hQ := hQ.fr fr6 (by decide) (by decide)
    have hU := hU.fr fr6 (by decide) (by decide)
    have hL := hL.fr fr6 (by decide) (by decide)
    have hwF := hwF.fr fr6 (by decide) (by decide)
    have hwT := hwT.fr fr6 (by decide) (by decide)
    have fr := fr.tr fr6 (by decide)
    rw [← eF] at hwF hF1
    rw [← eB] at hwB
    refine v_aload_n dX0_divided_93 rfl ?_
    refine v_get fX0_39 dX0_divided_94 h_15 (by decide) rfl ?_
    refine v_iconst (iI 1) dX0_divided_97 rfl ?_
    refine v_cV (av := [.int (iI 1)]) (st := []) zyX5_seek lX0_123 h_23 rfl (p_seek (d := 3) (k := 1) ⟨h_23, hwF, hwB, _, hwT⟩ (by decide) (by decide) (by rw [Nat.pow_one]; omega)) dX0_divided_98 rfl rfl (Nat.le_of_ble_eq_true rfl) (by omega) (Nat.le_of_ble_eq_true rfl) (Nat.le_of_ble_eq_true rfl) (Or.inl (fun _ _ _ q => ZN q)) (fun r9 H5 n9 q9 => ?_)
    obtain ⟨rfl, q9n, ⟨h_23, hwF, hwB, t1, hwT⟩, fr5⟩ := q9
    have q9n := q9n.symm
    subst q9n
    have h_15 := (fr5 15 (by decide)).trans h_15
    have h_18 := (fr5 18 (by decide)).trans h_18
    have hQ := hQ.fr fr5 (by decide) (by decide)
    have hU := hU.fr fr5 (by decide) (by decide)
    have hL := hL.fr fr5 (by decide) (by decide)
    have fr := fr.tr fr5 (by decide)
    have hS : dS v1 v2 < 4294967296 := by
      unfold dS
      have hsp := skf_spec (F := dF v1 v2) (B := dB v1 v2) (k := 1) 32 0 (by simp) (by
        rw [Nat.pow_one, eF, eB, Nat.zero_add]
        have h5 := nb_hi v1
        have h6 := nb_lo h20
        have q1 : v1 * 2 ^ lf.toNat < 2 ^ (nb v1) * 2 ^ lf.toNat := Nat.mul_lt_mul_of_pos_right h5 (p_pos _)
        have q2 : 2 ^ (nb v2 - 1) * 2 ^ (-lf).toNat * 2 ^ 32 ≤ v2 * 2 ^ (-lf).toNat * 2 ^ 32 := Nat.mul_le_mul_right _ (Nat.mul_le_mul_right _ h6)
        rw [← Nat.pow_add] at q1
        rw [← Nat.pow_add, ← Nat.pow_add, show nb v2 - 1 + (-lf).toNat + 32 = nb v1 + lf.toNat from by omega] at q2
        omega)
      omega
    refine v_lstore (i := 5) (lv' := [(5, .long (jL (dS v1 v2:Nat))), (4, .int (iI lf)), (0, .ref 15), (1, .int (iI X9)), (2, .int (iI (bz mi))), (3, .int (iI (w:Nat)))]) dX0_divided_101 (by decide) rfl ?_
    refine v_iload_n dX0_divided_103 rfl ?_
    refine v_iload_n dX0_divided_104 rfl ?_
    refine v_lload dX0_divided_105 rfl ?_
    refine v_iload_n dX0_divided_107 rfl ?_
    refine v_iload dX0_divided_108 rfl ?_
    refine w_isub dX0_divided_110 ?_
    refine v_aload_n dX0_divided_111 rfl ?_
    refine v_get fX0_39 dX0_divided_112 h_15 (by decide) rfl ?_
    refine v_get fX0_126 dX0_divided_115 h_23 (by decide) rfl ?_
    refine v_cS (av := [.int (iI (w:Nat)), .int (iI (bz mi)), .long (jL (dS v1 v2:Nat)), .int (iI (X9 - lf)), .int (iI (bz (decide (skf (dF v1 v2) (dB v1 v2) 1 32 0 = 0 ∨ dF v1 v2 * (skf (dF v1 v2) (dB v1 v2) 1 32 0) ^ 1 < dB v1 v2))))]) (st := []) zyX4_ofLong lX0_64 (p_ofLong (d := 2) (by decide) hw (by omega) (by omega)) dX0_divided_118 rfl rfl (Nat.le_of_ble_eq_true rfl) (by omega) (Nat.le_of_ble_eq_true rfl) (Nat.le_of_ble_eq_true rfl) (Or.inl (fun _ _ _ q => ZN q)) (fun r9 K6 n9 q9 => ?_)
    obtain ⟨rfl, q9n, q9h⟩ := q9
    have q9n := q9n.symm
    subst q9n
    have q9h := q9h.symm
    subst q9h
    rw [show rlg w mi (dS v1 v2) (X9 - lf) (decide (skf (dF v1 v2) (dB v1 v2) 1 32 0 = 0 ∨ dF v1 v2 * (skf (dF v1 v2) (dB v1 v2) 1 32 0) ^ 1 < dB v1 v2)) = dvA w mi v1 v2 X9 from by unfold dvA; rw [if_neg c1, elf]; rfl]
    exact v_lret dX0_divided_121 trivial (Nat.le_of_ble_eq_true rfl) (Nat.le_of_ble_eq_true rfl) ⟨rfl, rfl, ⟨h_15, ⟨_, _, hQ⟩, h_18, ⟨_, hU⟩, ⟨_, hL⟩, _, _, _, h_23, hwF, hwB, _, hwT⟩, fr⟩
  · have c1 := of_decide_eq_true c1
    refine v_lconst (jL 0) dX0_divided_10 rfl ?_
    exact v_lret dX0_divided_11 trivial (Nat.le_of_ble_eq_true rfl) (Nat.le_of_ble_eq_true rfl) ⟨by unfold dvA; rw [if_pos c1]; rfl, rfl, hA, fr⟩
def quoA (n : Nat) (n1 m1 : Bool) (s1 : Nat) (x1 : Int) (n2 m2 : Bool) (s2 : Nat) (x2 : Int) : Nat := if n1 = true ∨ n2 = true ∨ s2 = 0 then 2 ^ (n - 1) else dvA n (m1 ^^ m2) s1 s2 (x1 - x2)
set_option maxHeartbeats 4000000 in
set_option maxRecDepth 100000 in
theorem p_quotientOf {d n w s1 s2 : Nat} {n1 m1 n2 m2 : Bool} {x1 x2 : Int} {h : zH} (hA : AC h) (hp1 : PO h 12 n1 m1 s1 x1) (hp2 : PO h 13 n2 m2 s2 x2) (hd : 5 ≤ d) (hw : 3 ≤ w ∧ w ≤ 32) :
    zM yX0_quotientOf cX0_quotientOf 4 (some .long) d 0 0 [.ref 15, .ref 12, .ref 13, .int (iI (w:Nat))] h n (fun r h' n' => r = some (.long (jL (quoA w n1 m1 s1 x1 n2 m2 s2 x2 : Nat))) ∧ n' = n ∧ AC h' ∧ zFr ACS h h') := by
  obtain ⟨h_15, ⟨qn, qV, hQ⟩, h_18, ⟨u0, hU⟩, ⟨l0, hL⟩, F0, B0, mo0, h_23, hwF, hwB, t0, hwT⟩ := id hA
  obtain ⟨h_12, hs1, hx1, hx1'⟩ := hp1
  obtain ⟨h_13, hs2, hx2, hx2'⟩ := hp2
  refine zM_of zyX0_quotientOf rfl (Nat.le_of_ble_eq_true rfl) (fun X hX => ?_)
  have fr : zFr ACS h h := zFr.rf
  have nr : (n1 = true ∨ n2 = true ∨ s2 = 0) → (zV X (fun r h' n' => r = some (.long (jL (quoA w n1 m1 s1 x1 n2 m2 s2 x2 : Nat))) ∧ n' = n ∧ AC h' ∧ zFr ACS h h') cX0_quotientOf 4 RX0 (some .long) d 0 0 23 [(0, .ref 15), (1, .ref 12), (2, .ref 13), (3, .int (iI (w:Nat)))] [] h n 0 0) := by
    intro hn
    refine v_iload_n dX0_quotientOf_23 rfl ?_
    refine v_cS (av := [.int (iI (w:Nat))]) (st := []) zyX4_notReal lX0_47 (p_notReal (d := 4) (by omega)) dX0_quotientOf_24 rfl rfl (Nat.le_of_ble_eq_true rfl) (by omega) (Nat.le_of_ble_eq_true rfl) (Nat.le_of_ble_eq_true rfl) (Or.inl (fun _ _ _ q => ZN q)) (fun r9 K1 n9 q9 => ?_)
    obtain ⟨rfl, q9n, q9h⟩ := q9
    have q9n := q9n.symm
    subst q9n
    have q9h := q9h.symm
    subst q9h
    exact v_lret dX0_quotientOf_27 trivial (Nat.le_of_ble_eq_true rfl) (Nat.le_of_ble_eq_true rfl) ⟨by unfold quoA; rw [if_pos hn], rfl, hA, fr⟩
  refine v_aload_n dX0_quotientOf_0 rfl ?_
  refine v_get fX0_43 dX0_quotientOf_1 h_12 (by decide) rfl ?_
  refine w_ifb_ne 23 dX0_quotientOf_4 (by decide) (fun c1 => ?_) (fun c1 => ?_)
  · exact nr (Or.inl c1)
  · skip
    refine v_aload_n dX0_quotientOf_7 rfl ?_
    refine v_get fX0_43 dX0_quotientOf_8 h_13 (by decide) rfl ?_
    refine w_ifb_ne 23 dX0_quotientOf_11 (by decide) (fun c2 => ?_) (fun c2 => ?_)
    · exact nr (Or.inr (Or.inl c2))
    · skip
      refine v_aload_n dX0_quotientOf_14 rfl ?_
      refine v_get fX0_56 dX0_quotientOf_15 h_13 (by decide) rfl ?_
      refine v_lconst (jL 0) dX0_quotientOf_18 rfl ?_
      refine w_lcmp_ne 28 dX0_quotientOf_19 dX0_quotientOf_20 (by decide) (by omega) (by decide) (fun c3 => ?_) (fun c3 => ?_)
      · have hn : ¬ (n1 = true ∨ n2 = true ∨ s2 = 0) := by
          rw [c1, c2]; rintro (z | z | z)
          · exact absurd z (by decide)
          · exact absurd z (by decide)
          · omega
        refine v_aload_n dX0_quotientOf_28 rfl ?_
        refine v_get fX0_29 dX0_quotientOf_29 h_15 (by decide) rfl ?_
        refine v_aload_n dX0_quotientOf_32 rfl ?_
        refine v_get fX0_56 dX0_quotientOf_33 h_12 (by decide) rfl ?_
        obtain ⟨u919, f919, h_19, -⟩ := id hU
        refine v_cV (av := [.long (jL (s1:Nat))]) (st := []) zyX7_put lX0_92 h_19 rfl (p_put (d := 4) hU (by decide) (by omega)) dX0_quotientOf_36 rfl rfl (Nat.le_of_ble_eq_true rfl) (by omega) (Nat.le_of_ble_eq_true rfl) (Nat.le_of_ble_eq_true rfl) (Or.inl (fun _ _ _ q => ZN q)) (fun r9 H1 n9 q9 => ?_)
        obtain ⟨rfl, q9n, hU, fr9⟩ := q9
        have q9n := q9n.symm
        subst q9n
        have h_15 := (fr9 15 (by decide)).trans h_15
        have h_18 := (fr9 18 (by decide)).trans h_18
        have h_23 := (fr9 23 (by decide)).trans h_23
        have h_12 := (fr9 12 (by decide)).trans h_12
        have h_13 := (fr9 13 (by decide)).trans h_13
        have hQ := hQ.fr fr9 (by decide) (by decide)
        have hL := hL.fr fr9 (by decide) (by decide)
        have hwF := hwF.fr fr9 (by decide) (by decide)
        have hwB := hwB.fr fr9 (by decide) (by decide)
        have hwT := hwT.fr fr9 (by decide) (by decide)
        have fr := fr.tr fr9 (by decide)
        refine v_aload_n dX0_quotientOf_39 rfl ?_
        refine v_get fX0_33 dX0_quotientOf_40 h_15 (by decide) rfl ?_
        refine v_aload_n dX0_quotientOf_43 rfl ?_
        refine v_get fX0_56 dX0_quotientOf_44 h_13 (by decide) rfl ?_
        obtain ⟨u921, f921, h_21, -⟩ := id hL
        refine v_cV (av := [.long (jL (s2:Nat))]) (st := []) zyX7_put lX0_92 h_21 rfl (p_put (d := 4) hL (by decide) (by omega)) dX0_quotientOf_47 rfl rfl (Nat.le_of_ble_eq_true rfl) (by omega) (Nat.le_of_ble_eq_true rfl) (Nat.le_of_ble_eq_true rfl) (Or.inl (fun _ _ _ q => ZN q)) (fun r9 H2 n9 q9 => ?_)
        obtain ⟨rfl, q9n, hL, fr8⟩ := q9
        have q9n := q9n.symm
        subst q9n
        have h_15 := (fr8 15 (by decide)).trans h_15
        have h_18 := (fr8 18 (by decide)).trans h_18
        have h_23 := (fr8 23 (by decide)).trans h_23
        have h_12 := (fr8 12 (by decide)).trans h_12
        have h_13 := (fr8 13 (by decide)).trans h_13
        have hQ := hQ.fr fr8 (by decide) (by decide)
        have hU := hU.fr fr8 (by decide) (by decide)
        have hwF := hwF.fr fr8 (by decide) (by decide)
        have hwB := hwB.fr fr8 (by decide) (by decide)
        have hwT := hwT.fr fr8 (by decide) (by decide)
        have fr := fr.tr fr8 (by decide)
        refine v_aload_n dX0_quotientOf_50 rfl ?_
        refine v_aload_n dX0_quotientOf_51 rfl ?_
        refine v_get fX0_60 dX0_quotientOf_52 h_12 (by decide) rfl ?_
        refine v_aload_n dX0_quotientOf_55 rfl ?_
        refine v_get fX0_60 dX0_quotientOf_56 h_13 (by decide) rfl ?_
        refine w_isub dX0_quotientOf_59 ?_
        refine v_aload_n dX0_quotientOf_60 rfl ?_
        refine v_get fX0_53 dX0_quotientOf_61 h_12 (by decide) rfl ?_
        refine v_aload_n dX0_quotientOf_64 rfl ?_
        refine v_get fX0_53 dX0_quotientOf_65 h_13 (by decide) rfl ?_
        refine w_bxor dX0_quotientOf_68 ?_
        refine v_iload_n dX0_quotientOf_69 rfl ?_
        refine v_cV (av := [.int (iI (x1 - x2)), .int (iI (bz (m1 ^^ m2))), .int (iI (w:Nat))]) (st := []) zyX0_divided lX0_96 h_15 rfl (p_divided (d := 4) ⟨h_15, ⟨_, _, hQ⟩, h_18, ⟨_, hU⟩, ⟨_, hL⟩, _, _, _, h_23, hwF, hwB, _, hwT⟩ hU hL (by omega) (nb_le (Nat.lt_of_lt_of_le hs1 (by decide))) (nb_le (Nat.lt_of_lt_of_le hs2 (by decide))) (by omega) (by decide) hw) dX0_quotientOf_70 rfl rfl (Nat.le_of_ble_eq_true rfl) (by omega) (Nat.le_of_ble_eq_true rfl) (Nat.le_of_ble_eq_true rfl) (Or.inl (fun _ _ _ q => ZN q)) (fun r9 H3 n9 q9 => ?_)
        obtain ⟨rfl, q9n, hA, fr7⟩ := q9
        have q9n := q9n.symm
        subst q9n
        exact v_lret dX0_quotientOf_73 trivial (Nat.le_of_ble_eq_true rfl) (Nat.le_of_ble_eq_true rfl) ⟨by unfold quoA; rw [if_neg hn], rfl, hA, fr.tr fr7 (by decide)⟩
      · exact nr (Or.inr (Or.inr (by omega)))
