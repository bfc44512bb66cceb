/-! The acts: ratios, roots, distances, powers, decimals -/
def ratA (n : Nat) (a b : Int) : Nat := if b = 0 then 2 ^ (n - 1) else dvA n (decide (a < 0) ^^ decide (b < 0)) a.natAbs b.natAbs 0
set_option maxHeartbeats 4000000 in
set_option maxRecDepth 100000 in
theorem p_ratioOf {d n w : Nat} {a b : Int} {h : zH} (hA : AC h) (ha : -9223372036854775808 ≤ a ∧ a < 9223372036854775808) (hb : -9223372036854775808 ≤ b ∧ b < 9223372036854775808) (hd : 5 ≤ d) (hw : 3 ≤ w ∧ w ≤ 32) :
    zM yX0_ratioOf cX0_ratioOf 6 (some .long) d 0 0 [.ref 15, .long (jL a), .long (jL b), .int (iI (w:Nat))] h n (fun r h' n' => r = some (.long (jL (ratA w a b : Nat))) ∧ n' = n ∧ AC h' ∧ zFr ACS h h') := by
  obtain ⟨h_15, ⟨qn, qV, hQ⟩, h_18, ⟨u0, hU⟩, ⟨l0, hL⟩, F0, B0, mo0, h_23, hwF, hwB, t0, hwT⟩ := id hA
  refine zM_of zyX0_ratioOf rfl (Nat.le_of_ble_eq_true rfl) (fun X hX => ?_)
  have fr : zFr ACS h h := zFr.rf
  refine v_lload_n dX0_ratioOf_0 rfl ?_
  refine v_lconst (jL 0) dX0_ratioOf_1 rfl ?_
  refine w_lcmp_ne 12 dX0_ratioOf_2 dX0_ratioOf_3 (by decide) (by omega) (by decide) (fun c1 => ?_) (fun c1 => ?_)
  · have j28 : (zV X (fun r h' n' => r = some (.long (jL (ratA w a b : Nat))) ∧ n' = n ∧ AC h' ∧ zFr ACS h h') cX0_ratioOf 6 RX0 (some .long) d 0 0 28 [(0, .ref 15), (1, .long (jL a)), (3, .long (jL b)), (5, .int (iI (w:Nat)))] [.long (jL (a.natAbs:Nat)), .ref 19] h n 0 0) := by
      obtain ⟨u919, f919, h_19, -⟩ := id hU
      refine v_cV (av := [.long (jL (a.natAbs:Nat))]) (st := []) zyX7_put lX0_92 h_19 rfl (p_put (d := 4) hU (by decide) (by omega)) dX0_ratioOf_28 rfl rfl (Nat.le_of_ble_eq_true rfl) (by omega) (Nat.le_of_ble_eq_true rfl) (Nat.le_of_ble_eq_true rfl) (Or.inl (fun _ _ _ q => ZN q)) (fun r9 H1 n9 q9 => ?_)
      obtain ⟨rfl, q9n, hU, fr9⟩ := q9
      have q9n := q9n.symm
      subst q9n
      have h_15 := (fr9 15 (by decide)).trans h_15
      have h_18 := (fr9 18 (by decide)).trans h_18
      have h_23 := (fr9 23 (by decide)).trans h_23
      have hQ := hQ.fr fr9 (by decide) (by decide)
      have hL := hL.fr fr9 (by decide) (by decide)
      have hwF := hwF.fr fr9 (by decide) (by decide)
      have hwB := hwB.fr fr9 (by decide) (by decide)
      have hwT := hwT.fr fr9 (by decide) (by decide)
      have fr := fr.tr fr9 (by decide)
      have j47 : (zV X (fun r h' n' => r = some (.long (jL (ratA w a b : Nat))) ∧ n' = n ∧ AC h' ∧ zFr ACS h h') cX0_ratioOf 6 RX0 (some .long) d 0 0 47 [(0, .ref 15), (1, .long (jL a)), (3, .long (jL b)), (5, .int (iI (w:Nat)))] [.long (jL (b.natAbs:Nat)), .ref 21] H1 n 0 0) := by
        obtain ⟨u921, f921, h_21, -⟩ := id hL
        refine v_cV (av := [.long (jL (b.natAbs:Nat))]) (st := []) zyX7_put lX0_92 h_21 rfl (p_put (d := 4) hL (by decide) (by omega)) dX0_ratioOf_47 rfl rfl (Nat.le_of_ble_eq_true rfl) (by omega) (Nat.le_of_ble_eq_true rfl) (Nat.le_of_ble_eq_true rfl) (Or.inl (fun _ _ _ q => ZN q)) (fun r9 H2 n9 q9 => ?_)
        obtain ⟨rfl, q9n, hL, fr8⟩ := q9
        have q9n := q9n.symm
        subst q9n
        have h_15 := (fr8 15 (by decide)).trans h_15
        have h_18 := (fr8 18 (by decide)).trans h_18
        have h_23 := (fr8 23 (by decide)).trans h_23
        have hQ := hQ.fr fr8 (by decide) (by decide)
        have hU := hU.fr fr8 (by decide) (by decide)
        have hwF := hwF.fr fr8 (by decide) (by decide)
        have hwB := hwB.fr fr8 (by decide) (by decide)
        have hwT := hwT.fr fr8 (by decide) (by decide)
        have fr := fr.tr fr8 (by decide)
        have j74 : ∀ b1 b2 : Bool, b1 = decide (a < 0) → b2 = decide (b < 0) → (zV X (fun r h' n' => r = some (.long (jL (ratA w a b : Nat))) ∧ n' = n ∧ AC h' ∧ zFr ACS h h') cX0_ratioOf 6 RX0 (some .long) d 0 0 74 [(0, .ref 15), (5, .int (iI (w:Nat)))] [.int (iI (bz b2)), .int (iI (bz b1)), .int (iI 0), .ref 15] H2 n 0 0) := by
          intro b1 b2 e1 e2
          refine w_bxor dX0_ratioOf_74 ?_
          refine v_iload dX0_ratioOf_75 rfl ?_
          refine v_cV (av := [.int (iI 0), .int (iI (bz (b1 ^^ b2))), .int (iI (w:Nat))]) (st := []) zyX0_divided lX0_96 h_15 rfl (p_divided (d := 4) ⟨h_15, ⟨_, _, hQ⟩, h_18, ⟨_, hU⟩, ⟨_, hL⟩, _, _, _, h_23, hwF, hwB, _, hwT⟩ hU hL (by omega) (nb_le (Nat.lt_of_lt_of_le (show a.natAbs < 18446744073709551616 by omega) (by decide))) (nb_le (Nat.lt_of_lt_of_le (show b.natAbs < 18446744073709551616 by omega) (by decide))) (by decide) (by decide) hw) dX0_ratioOf_77 rfl rfl (Nat.le_of_ble_eq_true rfl) (by omega) (Nat.le_of_ble_eq_true rfl) (Nat.le_of_ble_eq_true rfl) (Or.inl (fun _ _ _ q => ZN q)) (fun r9 H3 n9 q9 => ?_)
          obtain ⟨rfl, q9n, hA, fr7⟩ := q9
          have q9n := q9n.symm
          subst q9n
          exact v_lret dX0_ratioOf_80 trivial (Nat.le_of_ble_eq_true rfl) (Nat.le_of_ble_eq_true rfl) ⟨by unfold ratA; rw [if_neg c1, e1, e2], rfl, hA, fr.tr fr7 (by decide)⟩
        have j63 : ∀ b1 : Bool, b1 = decide (a < 0) → (zV X (fun r h' n' => r = some (.long (jL (ratA w a b : Nat))) ∧ n' = n ∧ AC h' ∧ zFr ACS h h') cX0_ratioOf 6 RX0 (some .long) d 0 0 63 [(0, .ref 15), (3, .long (jL b)), (5, .int (iI (w:Nat)))] [.int (iI (bz b1)), .int (iI 0), .ref 15] H2 n 0 0) := by
          intro b1 e1
          refine v_lload_n dX0_ratioOf_63 rfl ?_
          refine v_lconst (jL 0) dX0_ratioOf_64 rfl ?_
          refine w_lcmp_ge 73 dX0_ratioOf_65 dX0_ratioOf_66 (by decide) (by omega) (by decide) (fun c2 => ?_) (fun c2 => ?_)
          · skip
            refine v_iconst (iI 0) dX0_ratioOf_73 rfl ?_
            refine w_ei (bz false) rfl ?_
            refine w_sub (lv2 := [(0, .ref 15), (5, .int (iI (w:Nat)))]) [0, 2] rfl ?_
            exact j74 b1 false e1 (decide_eq_false (by omega)).symm
          · skip
            refine v_iconst (iI 1) dX0_ratioOf_69 rfl ?_
            refine v_goto 74 dX0_ratioOf_70 (by decide) ?_
            refine w_ei (bz true) rfl ?_
            refine w_sub (lv2 := [(0, .ref 15), (5, .int (iI (w:Nat)))]) [0, 2] rfl ?_
            exact j74 b1 true e1 (decide_eq_true (by omega)).symm
        refine v_aload_n dX0_ratioOf_50 rfl ?_
        refine v_iconst (iI 0) dX0_ratioOf_51 rfl ?_
        refine v_lload_n dX0_ratioOf_52 rfl ?_
        refine v_lconst (jL 0) dX0_ratioOf_53 rfl ?_
        refine w_lcmp_ge 62 dX0_ratioOf_54 dX0_ratioOf_55 (by decide) (by omega) (by decide) (fun c2 => ?_) (fun c2 => ?_)
        · skip
          refine v_iconst (iI 0) dX0_ratioOf_62 rfl ?_
          refine w_ei (bz false) rfl ?_
          refine w_sub (lv2 := [(0, .ref 15), (3, .long (jL b)), (5, .int (iI (w:Nat)))]) [0, 2, 3] rfl ?_
          exact j63 false (decide_eq_false (by omega)).symm
        · skip
          refine v_iconst (iI 1) dX0_ratioOf_58 rfl ?_
          refine v_goto 63 dX0_ratioOf_59 (by decide) ?_
          refine w_ei (bz true) rfl ?_
          refine w_sub (lv2 := [(0, .ref 15), (3, .long (jL b)), (5, .int (iI (w:Nat)))]) [0, 2, 3] rfl ?_
          exact j63 true (decide_eq_true (by omega)).symm
      refine v_aload_n dX0_ratioOf_31 rfl ?_
      refine v_get fX0_33 dX0_ratioOf_32 h_15 (by decide) rfl ?_
      refine v_lload_n dX0_ratioOf_35 rfl ?_
      refine v_lconst (jL 0) dX0_ratioOf_36 rfl ?_
      refine w_lcmp_ge 46 dX0_ratioOf_37 dX0_ratioOf_38 (by decide) (by omega) (by decide) (fun c2 => ?_) (fun c2 => ?_)
      · skip
        refine v_lload_n dX0_ratioOf_46 rfl ?_
        refine w_el (b.natAbs:Nat) (by omega) ?_
        exact j47
      · skip
        refine v_lload_n dX0_ratioOf_41 rfl ?_
        refine w_lneg dX0_ratioOf_42 ?_
        refine v_goto 47 dX0_ratioOf_43 (by decide) ?_
        refine w_el (b.natAbs:Nat) (by omega) ?_
        exact j47
    refine v_aload_n dX0_ratioOf_12 rfl ?_
    refine v_get fX0_29 dX0_ratioOf_13 h_15 (by decide) rfl ?_
    refine v_lload_n dX0_ratioOf_16 rfl ?_
    refine v_lconst (jL 0) dX0_ratioOf_17 rfl ?_
    refine w_lcmp_ge 27 dX0_ratioOf_18 dX0_ratioOf_19 (by decide) (by omega) (by decide) (fun c2 => ?_) (fun c2 => ?_)
    · skip
      refine v_lload_n dX0_ratioOf_27 rfl ?_
      refine w_el (a.natAbs:Nat) (by omega) ?_
      exact j28
    · skip
      refine v_lload_n dX0_ratioOf_22 rfl ?_
      refine w_lneg dX0_ratioOf_23 ?_
      refine v_goto 28 dX0_ratioOf_24 (by decide) ?_
      refine w_el (a.natAbs:Nat) (by omega) ?_
      exact j28
  · skip
    refine v_iload dX0_ratioOf_6 rfl ?_
    refine v_cS (av := [.int (iI (w:Nat))]) (st := []) zyX4_notReal lX0_47 (p_notReal (d := 4) (by omega)) dX0_ratioOf_8 rfl rfl (Nat.le_of_ble_eq_true rfl) (by omega) (Nat.le_of_ble_eq_true rfl) (Nat.le_of_ble_eq_true rfl) (Or.inl (fun _ _ _ q => ZN q)) (fun r9 K1 n9 q9 => ?_)
    obtain ⟨rfl, q9n, q9h⟩ := q9
    have q9n := q9n.symm
    subst q9n
    have q9h := q9h.symm
    subst q9h
    exact v_lret dX0_ratioOf_11 trivial (Nat.le_of_ble_eq_true rfl) (Nat.le_of_ble_eq_true rfl) ⟨by unfold ratA; rw [if_pos c1], rfl, hA, fr⟩
/-- roots -/
def rL (sg : Nat) (ex : Int) (k : Nat) : Int := 30 - (ex + (nb sg : Nat) - 1) / (k : Nat)
def rB (sg : Nat) (ex : Int) (k : Nat) : Nat := sg * 2 ^ (ex + (k : Nat) * rL sg ex k).toNat
def rS (sg : Nat) (ex : Int) (k : Nat) : Nat := skf 1 (rB sg ex k) k 32 0
def rtA (n : Nat) (na mi : Bool) (sg : Nat) (ex : Int) (k : Nat) : Nat := if na = true ∨ (mi = true ∧ k % 2 = 0) then 2 ^ (n - 1) else if sg = 0 then 0 else rlg n mi (rS sg ex k) (-rL sg ex k) (decide (rS sg ex k = 0 ∨ 1 * rS sg ex k ^ k < rB sg ex k))
theorem rB_r {sg k : Nat} {ex : Int} (h0 : sg ≠ 0) (hs : sg < 1073741824) (hk : 1 ≤ k ∧ k ≤ 8) (hx : -120 ≤ ex ∧ ex ≤ 120) : 0 ≤ ex + (k : Nat) * rL sg ex k ∧ ex + (k : Nat) * rL sg ex k ≤ 1000 ∧ nb sg + (ex + (k : Nat) * rL sg ex k).toNat ≤ 31 * k ∧ -200 ≤ rL sg ex k ∧ rL sg ex k ≤ 200 := by
  unfold rL
  have h1 : nb sg ≤ 30 := nb_le (k := 30) hs
  have h2 := nb_pos h0
  obtain ⟨sc, esc⟩ : ∃ sc, ex + (nb sg : Nat) - 1 = sc := ⟨_, rfl⟩
  rw [esc]
  have e1 := Int.emod_add_mul_ediv sc k
  have e2 := Int.emod_nonneg sc (show (k : Int) ≠ 0 by omega)
  have e3 := Int.emod_lt_of_pos sc (show (0 : Int) < k by omega)
  have e4 : (k : Int) * (30 - sc / k) = 30 * k - k * (sc / k) := by rw [Int.mul_sub]; omega
  have e5 : sc / k ≤ 150 := by
    apply Int.ediv_le_of_le_mul (by omega)
    have : (150 : Int) * 1 ≤ 150 * k := by omega
    omega
  have e6 : -150 ≤ sc / k := by
    apply Int.le_ediv_of_mul_le (by omega)
    omega
  rw [e4]
  omega
set_option maxHeartbeats 4000000 in
set_option maxRecDepth 100000 in
theorem p_rootOf {d n w sg k : Nat} {na mi : Bool} {ex : Int} {h : zH} (hA : AC h) (hp : PO h 12 na mi sg ex) (hk : 1 ≤ k ∧ k ≤ 8) (hd : 4 ≤ d) (hw : 3 ≤ w ∧ w ≤ 32) :
    zM yX0_rootOf cX0_rootOf 7 (some .long) d 0 0 [.ref 15, .ref 12, .int (iI (k:Nat)), .int (iI (w:Nat))] h n (fun r h' n' => r = some (.long (jL (rtA w na mi sg ex k : Nat))) ∧ n' = n ∧ AC h' ∧ zFr ACS h h') := by
  obtain ⟨h_15, ⟨qn, qV, hQ⟩, h_18, ⟨u0, hU⟩, ⟨l0, hL⟩, F0, B0, mo0, h_23, hwF, hwB, t0, hwT⟩ := id hA
  obtain ⟨h_12, hs, hx, hx'⟩ := hp
  refine zM_of zyX0_rootOf rfl (Nat.le_of_ble_eq_true rfl) (fun X hX => ?_)
  have fr : zFr ACS h h := zFr.rf
  have nr : (na = true ∨ (mi = true ∧ k % 2 = 0)) → (zV X (fun r h' n' => r = some (.long (jL (rtA w na mi sg ex k : Nat))) ∧ n' = n ∧ AC h' ∧ zFr ACS h h') cX0_rootOf 7 RX0 (some .long) d 0 0 20 [(0, .ref 15), (1, .ref 12), (2, .int (iI (k:Nat))), (3, .int (iI (w:Nat)))] [] h n 0 0) := by
    intro hn
    refine v_iload_n dX0_rootOf_20 rfl ?_
    refine v_cS (av := [.int (iI (w:Nat))]) (st := []) zyX4_notReal lX0_47 (p_notReal (d := 3) (by omega)) dX0_rootOf_21 rfl rfl (Nat.le_of_ble_eq_true rfl) (by omega) (Nat.le_of_ble_eq_true rfl) (Nat.le_of_ble_eq_true rfl) (Or.inl (fun _ _ _ q => ZN q)) (fun r9 K1 n9 q9 => ?_)
    obtain ⟨rfl, q9n, q9h⟩ := q9
    have q9n := q9n.symm
    subst q9n
    have q9h := q9h.symm
    subst q9h
    exact v_lret dX0_rootOf_24 trivial (Nat.le_of_ble_eq_true rfl) (Nat.le_of_ble_eq_true rfl) ⟨by unfold rtA; rw [if_pos hn], rfl, hA, fr⟩
  have go : ¬ (na = true ∨ (mi = true ∧ k % 2 = 0)) → (zV X (fun r h' n' => r = some (.long (jL (rtA w na mi sg ex k : Nat))) ∧ n' = n ∧ AC h' ∧ zFr ACS h h') cX0_rootOf 7 RX0 (some .long) d 0 0 25 [(0, .ref 15), (1, .ref 12), (2, .int (iI (k:Nat))), (3, .int (iI (w:Nat)))] [] h n 0 0) := by
    intro hn
    refine v_aload_n dX0_rootOf_25 rfl ?_
    refine v_get fX0_56 dX0_rootOf_26 h_12 (by decide) rfl ?_
    refine v_lconst (jL 0) dX0_rootOf_29 rfl ?_
    refine w_lcmp_ne 36 dX0_rootOf_30 dX0_rootOf_31 (by decide) (by omega) (by decide) (fun c1 => ?_) (fun c1 => ?_)
    · have h0 : sg ≠ 0 := by omega
      obtain ⟨b1, b2, b3, b4, b5⟩ := rB_r (ex := ex) h0 hs hk (by omega)
      have hnb : nb sg ≤ 30 := nb_le (k := 30) hs
      have hB : rB sg ex k < 2 ^ (31 * k) := nb_mul_lt b3
      have hB2 : 2 ^ (31 * k) ≤ 2 ^ 248 := Nat.pow_le_pow_right (by decide) (by omega)
      have hF : 1 * (2 ^ 32) ^ k ≤ 2 ^ 512 := by rw [Nat.one_mul, ← Nat.pow_mul]; exact Nat.pow_le_pow_right (by decide) (by omega)
      have hS : rS sg ex k < 4294967296 := by
        unfold rS
        have hsp := skf_spec (F := 1) (B := rB sg ex k) (k := k) 32 0 (by rw [Nat.zero_pow (by omega)]; omega) (by
          rw [Nat.zero_add, Nat.one_mul, ← Nat.pow_mul]
          exact Nat.lt_of_lt_of_le hB (Nat.pow_le_pow_right (by decide) (by omega)))
        omega
      refine v_bipush (iI 30) dX0_rootOf_36 rfl ?_
      refine v_aload_n dX0_rootOf_38 rfl ?_
      refine v_cV (av := []) (st := [.int (iI 30)]) zyX2_scale lX0_100 h_12 rfl (p_scale (d := 3) h_12 (by decide) (by omega) (by omega)) dX0_rootOf_39 rfl rfl (Nat.le_of_ble_eq_true rfl) (by omega) (Nat.le_of_ble_eq_true rfl) (Nat.le_of_ble_eq_true rfl) (Or.inl (fun _ _ _ q => ZN q)) (fun r9 K1 n9 q9 => ?_)
      obtain ⟨rfl, q9n, q9h⟩ := q9
      have q9n := q9n.symm
      subst q9n
      have q9h := q9h.symm
      subst q9h
      refine v_iload_n dX0_rootOf_42 rfl ?_
      refine v_iconst (iI 1) dX0_rootOf_43 rfl ?_
      refine v_cS (av := [.int (iI (k:Nat)), .int (iI 1)]) (st := [.int (iI (ex + (nb sg : Nat) - 1)), .int (iI 30)]) zyJ9_max_7cf53 lX0_104 (p_max (d := 3) (by omega) (by decide)) dX0_rootOf_44 rfl rfl (Nat.le_of_ble_eq_true rfl) (by omega) (Nat.le_of_ble_eq_true rfl) (Nat.le_of_ble_eq_true rfl) (Or.inl (fun _ _ _ q => ZN q)) (fun r9 K2 n9 q9 => ?_)
      obtain ⟨rfl, q9n, q9h⟩ := q9
      have q9n := q9n.symm
      subst q9n
      have q9h := q9h.symm
      subst q9h
      refine w_ei (k:Nat) (by omega) ?_
      refine v_cS (av := [.int (iI (ex + (nb sg : Nat) - 1)), .int (iI (k:Nat))]) (st := [.int (iI 30)]) zyJ9_floorDiv_7cf53 lX0_110 (p_floorDiv (d := 3) (by omega) (by omega)) dX0_rootOf_47 rfl rfl (Nat.le_of_ble_eq_true rfl) (by omega) (Nat.le_of_ble_eq_true rfl) (Nat.le_of_ble_eq_true rfl) (Or.inl (fun _ _ _ q => ZN q)) (fun r9 K3 n9 q9 => ?_)
      obtain ⟨rfl, q9n, q9h⟩ := q9
      have q9n := q9n.symm
      subst q9n
      have q9h := q9h.symm
      subst q9h
      obtain ⟨lf, elf⟩ : ∃ lf, rL sg ex k = lf := ⟨_, rfl⟩
      have eBB : sg * 2 ^ (ex + (k : Nat) * lf).toNat = rB sg ex k := by unfold rB; rw [elf]
      rw [elf] at b1 b2 b3 b4 b5
      refine w_isub dX0_rootOf_50 ?_
      refine w_ei lf (by rw [← elf]; rfl) ?_
      refine v_istore (i := 4) (lv' := [(4, .int (iI lf)), (0, .ref 15), (1, .ref 12), (2, .int (iI (k:Nat))), (3, .int (iI (w:Nat)))]) dX0_rootOf_51 (by decide) rfl ?_
      refine v_aload_n dX0_rootOf_53 rfl ?_
      refine v_get fX0_39 dX0_rootOf_54 h_15 (by decide) rfl ?_
      refine v_get fX0_113 dX0_rootOf_57 h_23 (by decide) rfl ?_
      refine v_lconst (jL 1) dX0_rootOf_60 rfl ?_
      obtain ⟨u924, f924, h_24, -⟩ := id hwF
      refine v_cV (av := [.long (jL 1)]) (st := []) zyX7_put lX0_92 h_24 rfl (p_put (d := 3) (x := 1) hwF (by decide) (by decide)) dX0_rootOf_61 rfl rfl (Nat.le_of_ble_eq_true rfl) (by omega) (Nat.le_of_ble_eq_true rfl) (Nat.le_of_ble_eq_true rfl) (Or.inl (fun _ _ _ q => ZN q)) (fun r9 H1 n9 q9 => ?_)
      obtain ⟨rfl, q9n, hwF, fr9⟩ := q9
      have q9n := q9n.symm
      subst q9n
      have h_15 := (fr9 15 (by decide)).trans h_15
      have h_18 := (fr9 18 (by decide)).trans h_18
      have h_23 := (fr9 23 (by decide)).trans h_23
      have h_12 := (fr9 12 (by decide)).trans h_12
      have hQ := hQ.fr fr9 (by decide) (by decide)
      have hL := hL.fr fr9 (by decide) (by decide)
      have hU := hU.fr fr9 (by decide) (by decide)
      have hwB := hwB.fr fr9 (by decide) (by decide)
      have hwT := hwT.fr fr9 (by decide) (by decide)
      have fr := fr.tr fr9 (by decide)
      refine v_aload_n dX0_rootOf_64 rfl ?_
      refine v_get fX0_39 dX0_rootOf_65 h_15 (by decide) rfl ?_
      refine v_get fX0_116 dX0_rootOf_68 h_23 (by decide) rfl ?_
      refine v_aload_n dX0_rootOf_71 rfl ?_
      refine v_get fX0_56 dX0_rootOf_72 h_12 (by decide) rfl ?_
      obtain ⟨u926, f926, h_26, -⟩ := id hwB
      refine v_cV (av := [.long (jL (sg:Nat))]) (st := []) zyX7_put lX0_92 h_26 rfl (p_put (d := 3) hwB (by decide) (by omega)) dX0_rootOf_75 rfl rfl (Nat.le_of_ble_eq_true rfl) (by omega) (Nat.le_of_ble_eq_true rfl) (Nat.le_of_ble_eq_true rfl) (Or.inl (fun _ _ _ q => ZN q)) (fun r9 H2 n9 q9 => ?_)
      obtain ⟨rfl, q9n, hwB, fr8⟩ := q9
      have q9n := q9n.symm
      subst q9n
      have h_15 := (fr8 15 (by decide)).trans h_15
      have h_18 := (fr8 18 (by decide)).trans h_18
      have h_23 := (fr8 23 (by decide)).trans h_23
      have h_12 := (fr8 12 (by decide)).trans h_12
      have hQ := hQ.fr fr8 (by decide) (by decide)
      have hL := hL.fr fr8 (by decide) (by decide)
      have hU := hU.fr fr8 (by decide) (by decide)
      have hwF := hwF.fr fr8 (by decide) (by decide)
      have hwT := hwT.fr fr8 (by decide) (by decide)
      have fr := fr.tr fr8 (by decide)
      refine v_aload_n dX0_rootOf_78 rfl ?_
      refine v_get fX0_39 dX0_rootOf_79 h_15 (by decide) rfl ?_
      refine v_get fX0_116 dX0_rootOf_82 h_23 (by decide) rfl ?_
      refine v_aload_n dX0_rootOf_85 rfl ?_
      refine v_get fX0_60 dX0_rootOf_86 h_12 (by decide) rfl ?_
      refine v_iload_n dX0_rootOf_89 rfl ?_
      refine v_iload dX0_rootOf_90 rfl ?_
      refine w_imul dX0_rootOf_92 ?_
      refine w_iadd dX0_rootOf_93 ?_
      refine w_ei ((ex + (k : Nat) * lf).toNat:Nat) (by omega) ?_
      obtain ⟨u926, f926, h_26, -⟩ := id hwB
      refine v_cV (av := [.int (iI ((ex + (k : Nat) * lf).toNat:Nat))]) (st := []) zyX7_shiftUp lX0_119 h_26 rfl (p_shiftUp (d := 3) hwB (by decide) (by omega) (by rw [eBB]; omega)) dX0_rootOf_94 rfl rfl (Nat.le_of_ble_eq_true rfl) (by omega) (Nat.le_of_ble_eq_true rfl) (Nat.le_of_ble_eq_true rfl) (Or.inl (fun _ _ _ q => ZN q)) (fun r9 H3 n9 q9 => ?_)
      obtain ⟨rfl, q9n, hwB, fr7⟩ := q9
      have q9n := q9n.symm
      subst q9n
      rw [eBB] at hwB
      have h_15 := (fr7 15 (by decide)).trans h_15
      have h_18 := (fr7 18 (by decide)).trans h_18
      have h_23 := (fr7 23 (by decide)).trans h_23
      have h_12 := (fr7 12 (by decide)).trans h_12
      have hQ := hQ.fr fr7 (by decide) (by decide)
      have hL := hL.fr fr7 (by decide) (by decide)
      have hU := hU.fr fr7 (by decide) (by decide)
      have hwF := hwF.fr fr7 (by decide) (by decide)
      have hwT := hwT.fr fr7 (by decide) (by decide)
      have fr := fr.tr fr7 (by decide)
      refine v_aload_n dX0_rootOf_97 rfl ?_
      refine v_get fX0_39 dX0_rootOf_98 h_15 (by decide) rfl ?_
      refine v_iload_n dX0_rootOf_101 rfl ?_
      refine v_cV (av := [.int (iI (k:Nat))]) (st := []) zyX5_seek lX0_123 h_23 rfl (p_seek (d := 3) (k := k) ⟨h_23, hwF, hwB, _, hwT⟩ (by decide) hk hF) dX0_rootOf_102 rfl rfl (Nat.le_of_ble_eq_true rfl) (by omega) (Nat.le_of_ble_eq_true rfl) (Nat.le_of_ble_eq_true rfl) (Or.inl (fun _ _ _ q => ZN q)) (fun r9 H5 n9 q9 => ?_)
      obtain ⟨rfl, q9n, ⟨h_23, hwF, hwB, t1, hwT⟩, fr5⟩ := q9
      have q9n := q9n.symm
      subst q9n
      have h_15 := (fr5 15 (by decide)).trans h_15
      have h_18 := (fr5 18 (by decide)).trans h_18
      have h_12 := (fr5 12 (by decide)).trans h_12
      have hQ := hQ.fr fr5 (by decide) (by decide)
      have hL := hL.fr fr5 (by decide) (by decide)
      have hU := hU.fr fr5 (by decide) (by decide)
      have fr := fr.tr fr5 (by decide)
      refine v_lstore (i := 5) (lv' := [(5, .long (jL (rS sg ex k:Nat))), (4, .int (iI lf)), (0, .ref 15), (1, .ref 12), (2, .int (iI (k:Nat))), (3, .int (iI (w:Nat)))]) dX0_rootOf_105 (by decide) rfl ?_
      refine v_iload_n dX0_rootOf_107 rfl ?_
      refine v_aload_n dX0_rootOf_108 rfl ?_
      refine v_get fX0_53 dX0_rootOf_109 h_12 (by decide) rfl ?_
      refine v_lload dX0_rootOf_112 rfl ?_
      refine v_iload dX0_rootOf_114 rfl ?_
      refine w_ineg dX0_rootOf_116 ?_
      refine v_aload_n dX0_rootOf_117 rfl ?_
      refine v_get fX0_39 dX0_rootOf_118 h_15 (by decide) rfl ?_
      refine v_get fX0_126 dX0_rootOf_121 h_23 (by decide) rfl ?_
      refine v_cS (av := [.int (iI (w:Nat)), .int (iI (bz mi)), .long (jL (rS sg ex k:Nat)), .int (iI (-lf)), .int (iI (bz (decide (skf 1 (rB sg ex k) k 32 0 = 0 ∨ 1 * (skf 1 (rB sg ex k) k 32 0) ^ k < rB sg ex k))))]) (st := []) zyX4_ofLong lX0_64 (p_ofLong (d := 2) (by decide) hw (by omega) (by omega)) dX0_rootOf_124 rfl rfl (Nat.le_of_ble_eq_true rfl) (by omega) (Nat.le_of_ble_eq_true rfl) (Nat.le_of_ble_eq_true rfl) (Or.inl (fun _ _ _ q => ZN q)) (fun r9 K4 n9 q9 => ?_)
      obtain ⟨rfl, q9n, q9h⟩ := q9
      have q9n := q9n.symm
      subst q9n
      have q9h := q9h.symm
      subst q9h
      rw [show rlg w mi (rS sg ex k) (-lf) (decide (skf 1 (rB sg ex k) k 32 0 = 0 ∨ 1 * (skf 1 (rB sg ex k) k 32 0) ^ k < rB sg ex k)) = rtA w na mi sg ex k from by unfold rtA; rw [if_neg hn, if_neg h0, elf]; rfl]
      exact v_lret dX0_rootOf_127 trivial (Nat.le_of_ble_eq_true rfl) (Nat.le_of_ble_eq_true rfl) ⟨rfl, rfl, ⟨h_15, ⟨_, _, hQ⟩, h_18, ⟨_, hU⟩, ⟨_, hL⟩, _, _, _, h_23, hwF, hwB, _, hwT⟩, fr⟩
    · skip
      refine v_lconst (jL 0) dX0_rootOf_34 rfl ?_
      exact v_lret dX0_rootOf_35 trivial (Nat.le_of_ble_eq_true rfl) (Nat.le_of_ble_eq_true rfl) ⟨by unfold rtA; rw [if_neg hn, if_pos (by omega)]; rfl, rfl, hA, fr⟩
  refine v_aload_n dX0_rootOf_0 rfl ?_
  refine v_get fX0_43 dX0_rootOf_1 h_12 (by decide) rfl ?_
  refine w_ifb_ne 20 dX0_rootOf_4 (by decide) (fun c1 => ?_) (fun c1 => ?_)
  · exact nr (Or.inl c1)
  · skip
    refine v_aload_n dX0_rootOf_7 rfl ?_
    refine v_get fX0_53 dX0_rootOf_8 h_12 (by decide) rfl ?_
    refine w_ifb_eq 25 dX0_rootOf_11 (by decide) (fun c2 => ?_) (fun c2 => ?_)
    · exact go (by rw [c1, c2]; rintro (z | ⟨z, -⟩) <;> exact absurd z (by decide))
    · skip
      refine v_iload_n dX0_rootOf_14 rfl ?_
      refine v_iconst (iI 1) dX0_rootOf_15 rfl ?_
      refine w_iandm dX0_rootOf_16 1 2 rfl (by decide) rfl ?_
      refine w_if_ne 25 dX0_rootOf_17 (by decide) (by omega) (fun c3 => ?_) (fun c3 => ?_)
      · exact go (by
          rintro (z | ⟨-, z⟩)
          · rw [c1] at z; exact absurd z (by decide)
          · omega)
      · exact nr (Or.inr ⟨c2, by omega⟩)
