/-! The acts: powers, decimals -/
theorem mul_r {a b : Int} {A B : Nat} (ha : a.natAbs ≤ A) (hb : b.natAbs ≤ B) : -((A * B : Nat) : Int) ≤ a * b ∧ a * b ≤ ((A * B : Nat) : Int) := by
  have h := Nat.mul_le_mul ha hb
  rw [← Int.natAbs_mul] at h
  omega
def pwA (n : Nat) (na mi : Bool) (sg : Nat) (ex : Int) (k : Int) : Nat := if na = true ∨ (sg = 0 ∧ k < 0) then 2 ^ (n - 1) else if 0 ≤ k then rwd n (mi && decide (k % 2 = 1)) (1 * sg ^ k.natAbs) (k * ex) else dvA n (mi && decide (k % 2 = 1)) 1 (1 * sg ^ k.natAbs) (k * ex)
set_option maxHeartbeats 4000000 in
set_option maxRecDepth 100000 in
theorem p_powerOf {d n w sg : Nat} {na mi : Bool} {ex k : Int} {h : zH} (hA : AC h) (hp : PO h 12 na mi sg ex) (hk : -16 ≤ k ∧ k ≤ 16) (hd : 5 ≤ d) (hw : 3 ≤ w ∧ w ≤ 32) :
    zM yX0_powerOf cX0_powerOf 5 (some .long) d 0 0 [.ref 15, .ref 12, .int (iI k), .int (iI (w:Nat))] h n (fun r h' n' => r = some (.long (jL (pwA w na mi sg ex k : Nat))) ∧ n' = n ∧ AC h' ∧ zFr ACS h h') := by
  obtain ⟨h_15, ⟨qn, qV, hQ⟩, h_18, ⟨u0, hU⟩, ⟨l0, hL⟩, F0, B0, mo0, h_23, hwF, hwB, t0, hwT⟩ := id hA
  obtain ⟨h_12, hs, hx, hx'⟩ := hp
  refine zM_of zyX0_powerOf rfl (Nat.le_of_ble_eq_true rfl) (fun X hX => ?_)
  have fr : zFr ACS h h := zFr.rf
  have nr : (na = true ∨ (sg = 0 ∧ k < 0)) → (zV X (fun r h' n' => r = some (.long (jL (pwA w na mi sg ex k : Nat))) ∧ n' = n ∧ AC h' ∧ zFr ACS h h') cX0_powerOf 5 RX0 (some .long) d 0 0 20 [(0, .ref 15), (1, .ref 12), (2, .int (iI k)), (3, .int (iI (w:Nat)))] [] h n 0 0) := by
    intro hn
    refine v_iload_n dX0_powerOf_20 rfl ?_
    refine v_cS (av := [.int (iI (w:Nat))]) (st := []) zyX4_notReal lX0_47 (p_notReal (d := 4) (by omega)) dX0_powerOf_21 rfl rfl (Nat.le_of_ble_eq_true rfl) (by omega) (Nat.le_of_ble_eq_true rfl) (Nat.le_of_ble_eq_true rfl) (Or.inl (fun _ _ _ q => ZN q)) (fun r9 K1 n9 q9 => ?_)
    obtain ⟨rfl, q9n, q9h⟩ := q9
    have q9n := q9n.symm
    subst q9n
    have q9h := q9h.symm
    subst q9h
    exact v_lret dX0_powerOf_24 trivial (Nat.le_of_ble_eq_true rfl) (Nat.le_of_ble_eq_true rfl) ⟨by unfold pwA; rw [if_pos hn], rfl, hA, fr⟩
  have go : ¬ (na = true ∨ (sg = 0 ∧ k < 0)) → (zV X (fun r h' n' => r = some (.long (jL (pwA w na mi sg ex k : Nat))) ∧ n' = n ∧ AC h' ∧ zFr ACS h h') cX0_powerOf 5 RX0 (some .long) d 0 0 25 [(0, .ref 15), (1, .ref 12), (2, .int (iI k)), (3, .int (iI (w:Nat)))] [] h n 0 0) := by
    intro hn
    have j44 : ∀ mn : Bool, mn = (mi && decide (k % 2 = 1)) → (zV X (fun r h' n' => r = some (.long (jL (pwA w na mi sg ex k : Nat))) ∧ n' = n ∧ AC h' ∧ zFr ACS h h') cX0_powerOf 5 RX0 (some .long) d 0 0 44 [(0, .ref 15), (1, .ref 12), (2, .int (iI k)), (3, .int (iI (w:Nat)))] [.int (iI (bz mn))] h n 0 0) := by
      intro mn emn
      have hkx := mul_r (a := k) (b := ex) (A := 16) (B := 120) (by omega) (by omega)
      obtain ⟨kx, ekx⟩ : ∃ kx, k * ex = kx := ⟨_, rfl⟩
      rw [ekx] at hkx
      have hpw : sg ^ k.natAbs < 2 ^ 480 := by
        have h1 : sg ^ k.natAbs ≤ 1073741823 ^ k.natAbs := Nat.pow_le_pow_left (by omega) _
        have h2 : 1073741823 ^ k.natAbs ≤ 1073741823 ^ 16 := Nat.pow_le_pow_right (by decide) (by omega)
        have h3 : 1073741823 ^ 16 < 2 ^ 480 := by decide
        omega
      refine v_istore (i := 4) (lv' := [(4, .int (iI (bz mn))), (0, .ref 15), (1, .ref 12), (2, .int (iI k)), (3, .int (iI (w:Nat)))]) dX0_powerOf_44 (by decide) rfl ?_
      refine v_aload_n dX0_powerOf_46 rfl ?_
      refine v_get fX0_33 dX0_powerOf_47 h_15 (by decide) rfl ?_
      refine v_lconst (jL 1) dX0_powerOf_50 rfl ?_
      obtain ⟨u921, f921, h_21, -⟩ := id hL
      refine v_cV (av := [.long (jL 1)]) (st := []) zyX7_put lX0_92 h_21 rfl (p_put (d := 4) (x := 1) hL (by decide) (by decide)) dX0_powerOf_51 rfl rfl (Nat.le_of_ble_eq_true rfl) (by omega) (Nat.le_of_ble_eq_true rfl) (Nat.le_of_ble_eq_true rfl) (Or.inl (fun _ _ _ q => ZN q)) (fun r9 H1 n9 q9 => ?_)
      obtain ⟨rfl, q9n, hL, fr9⟩ := q9
      have q9n := q9n.symm
      subst q9n
      have h_15 := (fr9 15 (by decide)).trans h_15
      have h_18 := (fr9 18 (by decide)).trans h_18
      have h_23 := (fr9 23 (by decide)).trans h_23
      have h_12 := (fr9 12 (by decide)).trans h_12
      have hQ := hQ.fr fr9 (by decide) (by decide)
      have hU := hU.fr fr9 (by decide) (by decide)
      have hwF := hwF.fr fr9 (by decide) (by decide)
      have hwB := hwB.fr fr9 (by decide) (by decide)
      have hwT := hwT.fr fr9 (by decide) (by decide)
      have fr := fr.tr fr9 (by decide)
      refine v_aload_n dX0_powerOf_54 rfl ?_
      refine v_get fX0_33 dX0_powerOf_55 h_15 (by decide) rfl ?_
      refine v_aload_n dX0_powerOf_58 rfl ?_
      refine v_get fX0_56 dX0_powerOf_59 h_12 (by decide) rfl ?_
      refine v_iload_n dX0_powerOf_62 rfl ?_
      refine v_cS (av := [.int (iI k)]) (st := [.long (jL (sg:Nat)), .ref 21]) zyJ9_abs_0f7a4 lX0_135 (p_abs (d := 4) (by omega)) dX0_powerOf_63 rfl rfl (Nat.le_of_ble_eq_true rfl) (by omega) (Nat.le_of_ble_eq_true rfl) (Nat.le_of_ble_eq_true rfl) (Or.inl (fun _ _ _ q => ZN q)) (fun r9 K1 n9 q9 => ?_)
      obtain ⟨rfl, q9n, q9h⟩ := q9
      have q9n := q9n.symm
      subst q9n
      have q9h := q9h.symm
      subst q9h
      obtain ⟨u921, f921, h_21, -⟩ := id hL
      refine v_cV (av := [.long (jL (sg:Nat)), .int (iI (k.natAbs:Nat))]) (st := []) zyX7_growOften lX0_139 h_21 rfl (p_growOften (d := 4) hL (by decide) (by omega) (by omega) (by omega)) dX0_powerOf_66 rfl rfl (Nat.le_of_ble_eq_true rfl) (by omega) (Nat.le_of_ble_eq_true rfl) (Nat.le_of_ble_eq_true rfl) (Or.inl (fun _ _ _ q => ZN q)) (fun r9 H2 n9 q9 => ?_)
      obtain ⟨rfl, q9n, hL, fr8⟩ := q9
      have q9n := q9n.symm
      subst q9n
      have h_15 := (fr8 15 (by decide)).trans h_15
      have h_18 := (fr8 18 (by decide)).trans h_18
      have h_23 := (fr8 23 (by decide)).trans h_23
      have h_12 := (fr8 12 (by decide)).trans h_12
      have hQ := hQ.fr fr8 (by decide) (by decide)
      have hU := hU.fr fr8 (by decide) (by decide)
      have hwF := hwF.fr fr8 (by decide) (by decide)
      have hwB := hwB.fr fr8 (by decide) (by decide)
      have hwT := hwT.fr fr8 (by decide) (by decide)
      have fr := fr.tr fr8 (by decide)
      refine v_iload_n dX0_powerOf_69 rfl ?_
      refine w_if_lt 90 dX0_powerOf_70 (by decide) (by omega) (fun c1 => ?_) (fun c1 => ?_)
      · skip
        refine v_aload_n dX0_powerOf_90 rfl ?_
        refine v_get fX0_29 dX0_powerOf_91 h_15 (by decide) rfl ?_
        refine v_lconst (jL 1) dX0_powerOf_94 rfl ?_
        obtain ⟨u919, f919, h_19, -⟩ := id hU
        refine v_cV (av := [.long (jL 1)]) (st := []) zyX7_put lX0_92 h_19 rfl (p_put (d := 4) (x := 1) hU (by decide) (by decide)) dX0_powerOf_95 rfl rfl (Nat.le_of_ble_eq_true rfl) (by omega) (Nat.le_of_ble_eq_true rfl) (Nat.le_of_ble_eq_true rfl) (Or.inl (fun _ _ _ q => ZN q)) (fun r9 H3 n9 q9 => ?_)
        obtain ⟨rfl, q9n, hU, fr7⟩ := q9
        have q9n := q9n.symm
        subst q9n
        have h_15 := (fr7 15 (by decide)).trans h_15
        have h_18 := (fr7 18 (by decide)).trans h_18
        have h_23 := (fr7 23 (by decide)).trans h_23
        have h_12 := (fr7 12 (by decide)).trans h_12
        have hQ := hQ.fr fr7 (by decide) (by decide)
        have hL := hL.fr fr7 (by decide) (by decide)
        have hwF := hwF.fr fr7 (by decide) (by decide)
        have hwB := hwB.fr fr7 (by decide) (by decide)
        have hwT := hwT.fr fr7 (by decide) (by decide)
        have fr := fr.tr fr7 (by decide)
        refine v_aload_n dX0_powerOf_98 rfl ?_
        refine v_iload_n dX0_powerOf_99 rfl ?_
        refine v_aload_n dX0_powerOf_100 rfl ?_
        refine v_get fX0_60 dX0_powerOf_101 h_12 (by decide) rfl ?_
        refine w_imul dX0_powerOf_104 ?_
        refine w_ei kx ekx ?_
        refine v_iload dX0_powerOf_105 rfl ?_
        refine v_iload_n dX0_powerOf_107 rfl ?_
        have hsg : sg ≠ 0 := fun z => hn (Or.inr ⟨z, c1⟩)
        have hpp : 0 < sg ^ k.natAbs := Nat.pow_pos (by omega)
        refine v_cV (av := [.int (iI kx), .int (iI (bz mn)), .int (iI (w:Nat))]) (st := []) zyX0_divided lX0_96 h_15 rfl (p_divided (d := 4) ⟨h_15, ⟨_, _, hQ⟩, h_18, ⟨_, hU⟩, ⟨_, hL⟩, _, _, _, h_23, hwF, hwB, _, hwT⟩ hU hL (by omega) (by decide) (nb_le (by omega)) (by omega) (by decide) hw) dX0_powerOf_108 rfl rfl (Nat.le_of_ble_eq_true rfl) (by omega) (Nat.le_of_ble_eq_true rfl) (Nat.le_of_ble_eq_true rfl) (Or.inl (fun _ _ _ q => ZN q)) (fun r9 H4 n9 q9 => ?_)
        obtain ⟨rfl, q9n, hA9, fr6⟩ := q9
        have q9n := q9n.symm
        subst q9n
        rw [show dvA w mn 1 (1 * sg ^ k.natAbs) kx = pwA w na mi sg ex k from by unfold pwA; rw [if_neg hn, if_neg (by omega), emn, ekx]]
        exact v_lret dX0_powerOf_111 trivial (Nat.le_of_ble_eq_true rfl) (Nat.le_of_ble_eq_true rfl) ⟨rfl, rfl, hA9, fr.tr fr6 (by decide)⟩
      · skip
        refine v_iload_n dX0_powerOf_73 rfl ?_
        refine v_iload dX0_powerOf_74 rfl ?_
        refine v_aload_n dX0_powerOf_76 rfl ?_
        refine v_get fX0_33 dX0_powerOf_77 h_15 (by decide) rfl ?_
        refine v_iload_n dX0_powerOf_80 rfl ?_
        refine v_aload_n dX0_powerOf_81 rfl ?_
        refine v_get fX0_60 dX0_powerOf_82 h_12 (by decide) rfl ?_
        refine w_imul dX0_powerOf_85 ?_
        refine w_ei kx ekx ?_
        refine v_cS (av := [.int (iI (w:Nat)), .int (iI (bz mn)), .ref 21, .int (iI kx)]) (st := []) zyX4_ofWide lX0_77 (p_ofWide (d := 4) hL (by decide) hw (by omega)) dX0_powerOf_86 rfl rfl (Nat.le_of_ble_eq_true rfl) (by omega) (Nat.le_of_ble_eq_true rfl) (Nat.le_of_ble_eq_true rfl) (Or.inl (fun _ _ _ q => ZN q)) (fun r9 K2 n9 q9 => ?_)
        obtain ⟨rfl, q9n, q9h⟩ := q9
        have q9n := q9n.symm
        subst q9n
        have q9h := q9h.symm
        subst q9h
        rw [show rwd w mn (1 * sg ^ k.natAbs) kx = pwA w na mi sg ex k from by unfold pwA; rw [if_neg hn, if_pos (by omega), emn, ekx]]
        exact v_lret dX0_powerOf_89 trivial (Nat.le_of_ble_eq_true rfl) (Nat.le_of_ble_eq_true rfl) ⟨rfl, rfl, ⟨h_15, ⟨_, _, hQ⟩, h_18, ⟨_, hU⟩, ⟨_, hL⟩, _, _, _, h_23, hwF, hwB, _, hwT⟩, fr⟩
    refine v_aload_n dX0_powerOf_25 rfl ?_
    refine v_get fX0_53 dX0_powerOf_26 h_12 (by decide) rfl ?_
    refine w_ifb_eq 43 dX0_powerOf_29 (by decide) (fun c1 => ?_) (fun c1 => ?_)
    · skip
      refine v_iconst (iI 0) dX0_powerOf_43 rfl ?_
      refine w_ei (bz false) rfl ?_
      exact j44 false (by rw [c1]; rfl)
    · skip
      refine v_iload_n dX0_powerOf_32 rfl ?_
      refine v_iconst (iI 1) dX0_powerOf_33 rfl ?_
      refine w_iandm dX0_powerOf_34 1 2 rfl (by decide) rfl ?_
      refine v_iconst (iI 1) dX0_powerOf_35 rfl ?_
      refine w_icmp_ne 43 dX0_powerOf_36 (by decide) (by omega) (by decide) (fun c2 => ?_) (fun c2 => ?_)
      · skip
        refine v_iconst (iI 0) dX0_powerOf_43 rfl ?_
        refine w_ei (bz false) rfl ?_
        exact j44 false (by rw [c1, decide_eq_false (by omega)]; rfl)
      · skip
        refine v_iconst (iI 1) dX0_powerOf_39 rfl ?_
        refine v_goto 44 dX0_powerOf_40 (by decide) ?_
        refine w_ei (bz true) rfl ?_
        exact j44 true (by rw [c1, decide_eq_true (by omega)]; rfl)
  refine v_aload_n dX0_powerOf_0 rfl ?_
  refine v_get fX0_43 dX0_powerOf_1 h_12 (by decide) rfl ?_
  refine w_ifb_ne 20 dX0_powerOf_4 (by decide) (fun c1 => ?_) (fun c1 => ?_)
  · exact nr (Or.inl c1)
  · skip
    refine v_aload_n dX0_powerOf_7 rfl ?_
    refine v_get fX0_56 dX0_powerOf_8 h_12 (by decide) rfl ?_
    refine v_lconst (jL 0) dX0_powerOf_11 rfl ?_
    refine w_lcmp_ne 25 dX0_powerOf_12 dX0_powerOf_13 (by decide) (by omega) (by decide) (fun c2 => ?_) (fun c2 => ?_)
    · exact go (by
        rintro (z | ⟨z, -⟩)
        · rw [c1] at z; exact absurd z (by decide)
        · omega)
    · skip
      refine v_iload_n dX0_powerOf_16 rfl ?_
      refine w_if_ge 25 dX0_powerOf_17 (by decide) (by omega) (fun c3 => ?_) (fun c3 => ?_)
      · exact go (by
          rintro (z | ⟨-, z⟩)
          · rw [c1] at z; exact absurd z (by decide)
          · omega)
      · exact nr (Or.inr ⟨by omega, by omega⟩)
def clm (tens : Int) : Int := max (-100) (min 40 tens)
def dcA (n : Nat) (mi : Bool) (D : Nat) (tens : Int) : Nat := if 0 ≤ clm tens then rwd n mi (D * 10 ^ (clm tens).toNat) 0 else dvA n mi (D * 10 ^ 0) (1 * 10 ^ (-clm tens).toNat) 0
set_option maxHeartbeats 4000000 in
set_option maxRecDepth 100000 in
theorem p_decimalOf {d n w D c e : Nat} {mi : Bool} {tens : Int} {h : zH} (hA : AC h) (hD : WD h c e D) (hce : c ≠ 20 ∧ e ≠ 20 ∧ e ≠ 19) (hD2 : D < 10 ^ 60) (ht : -100000 ≤ tens ∧ tens ≤ 100000) (hd : 5 ≤ d) (hw : 3 ≤ w ∧ w ≤ 32) :
    zM yX0_decimalOf cX0_decimalOf 6 (some .long) d 0 0 [.ref 15, .ref c, .int (iI tens), .int (iI (bz mi)), .int (iI (w:Nat))] h n (fun r h' n' => r = some (.long (jL (dcA w mi D tens : Nat))) ∧ n' = n ∧ AC h' ∧ zFr ACS h h') := by
  obtain ⟨h_15, ⟨qn, qV, hQ⟩, h_18, ⟨u0, hU⟩, ⟨l0, hL⟩, F0, B0, mo0, h_23, hwF, hwB, t0, hwT⟩ := id hA
  obtain ⟨cl, ecl⟩ : ∃ cl, clm tens = cl := ⟨_, rfl⟩
  have hcl : -100 ≤ cl ∧ cl ≤ 40 := by rw [← ecl]; unfold clm; omega
  have h60 : (10 : Nat) ^ 60 < 2 ^ 200 := by decide
  have h40 : ∀ t, t ≤ 40 → (10 : Nat) ^ t ≤ 10 ^ 40 := fun t z => Nat.pow_le_pow_right (by decide) z
  have h100 : ∀ t, t ≤ 100 → (10 : Nat) ^ t ≤ 10 ^ 100 := fun t z => Nat.pow_le_pow_right (by decide) z
  have q40 : (10 : Nat) ^ 40 < 2 ^ 133 := by decide
  have q100 : (10 : Nat) ^ 100 < 2 ^ 333 := by decide
  refine zM_of zyX0_decimalOf rfl (Nat.le_of_ble_eq_true rfl) (fun X hX => ?_)
  have fr : zFr ACS h h := zFr.rf
  refine v_bipush (iI (-100)) dX0_decimalOf_0 rfl ?_
  refine v_bipush (iI 40) dX0_decimalOf_2 rfl ?_
  refine v_iload_n dX0_decimalOf_4 rfl ?_
  refine v_cS (av := [.int (iI 40), .int (iI tens)]) (st := [.int (iI (-100))]) zyJ9_min_7cf53 lX0_143 (p_min (d := 4) (by decide) (by omega)) dX0_decimalOf_5 rfl rfl (Nat.le_of_ble_eq_true rfl) (by omega) (Nat.le_of_ble_eq_true rfl) (Nat.le_of_ble_eq_true rfl) (Or.inl (fun _ _ _ q => ZN q)) (fun r9 K1 n9 q9 => ?_)
  obtain ⟨rfl, q9n, q9h⟩ := q9
  have q9n := q9n.symm
  subst q9n
  have q9h := q9h.symm
  subst q9h
  refine v_cS (av := [.int (iI (-100)), .int (iI (min 40 tens))]) (st := []) zyJ9_max_7cf53 lX0_104 (p_max (d := 4) (by decide) (by omega)) dX0_decimalOf_8 rfl rfl (Nat.le_of_ble_eq_true rfl) (by omega) (Nat.le_of_ble_eq_true rfl) (Nat.le_of_ble_eq_true rfl) (Or.inl (fun _ _ _ q => ZN q)) (fun r9 K2 n9 q9 => ?_)
  obtain ⟨rfl, q9n, q9h⟩ := q9
  have q9n := q9n.symm
  subst q9n
  have q9h := q9h.symm
  subst q9h
  refine w_ei cl (by rw [← ecl]; rfl) ?_
  refine v_istore (i := 5) (lv' := [(5, .int (iI cl)), (0, .ref 15), (1, .ref c), (2, .int (iI tens)), (3, .int (iI (bz mi))), (4, .int (iI (w:Nat)))]) dX0_decimalOf_11 (by decide) rfl ?_
  refine v_aload_n dX0_decimalOf_13 rfl ?_
  refine v_get fX0_29 dX0_decimalOf_14 h_15 (by decide) rfl ?_
  refine v_aload_n dX0_decimalOf_17 rfl ?_
  obtain ⟨u919, f919, h_19, -⟩ := id hU
  refine v_cV (av := [.ref c]) (st := []) zyX7_copy lX0_146 h_19 rfl (p_copy (d := 4) hU hD hce (by decide)) dX0_decimalOf_18 rfl rfl (Nat.le_of_ble_eq_true rfl) (by omega) (Nat.le_of_ble_eq_true rfl) (Nat.le_of_ble_eq_true rfl) (Or.inl (fun _ _ _ q => ZN q)) (fun r9 H1 n9 q9 => ?_)
  obtain ⟨rfl, q9n, hU, fr9⟩ := q9
  have q9n := q9n.symm
  subst q9n
  have h_15 := (fr9 15 (by decide)).trans h_15
  have h_18 := (fr9 18 (by decide)).trans h_18
  have h_23 := (fr9 23 (by decide)).trans h_23
  have hQ := hQ.fr fr9 (by decide) (by decide)
  have hL := hL.fr fr9 (by decide) (by decide)
  have hwF := hwF.fr fr9 (by decide) (by decide)
  have hwB := hwB.fr fr9 (by decide) (by decide)
  have hwT := hwT.fr fr9 (by decide) (by decide)
  have fr := fr.tr fr9 (by decide)
  refine v_aload_n dX0_decimalOf_21 rfl ?_
  refine v_get fX0_29 dX0_decimalOf_22 h_15 (by decide) rfl ?_
  refine v_ldc2_w (v := jL 10) kX0_149 dX0_decimalOf_25 ?_
  refine v_iconst (iI 0) dX0_decimalOf_28 rfl ?_
  refine v_iload dX0_decimalOf_29 rfl ?_
  refine v_cS (av := [.int (iI 0), .int (iI cl)]) (st := [.long (jL 10), .ref 19]) zyJ9_max_7cf53 lX0_104 (p_max (d := 4) (by decide) (by omega)) dX0_decimalOf_31 rfl rfl (Nat.le_of_ble_eq_true rfl) (by omega) (Nat.le_of_ble_eq_true rfl) (Nat.le_of_ble_eq_true rfl) (Or.inl (fun _ _ _ q => ZN q)) (fun r9 K3 n9 q9 => ?_)
  obtain ⟨rfl, q9n, q9h⟩ := q9
  have q9n := q9n.symm
  subst q9n
  have q9h := q9h.symm
  subst q9h
  refine w_ei (cl.toNat:Nat) (by omega) ?_
  obtain ⟨u919, f919, h_19, -⟩ := id hU
  have hU1 : D * 10 ^ cl.toNat < 2 ^ 511 := by
    have := Nat.mul_lt_mul'' (Nat.lt_trans hD2 h60) (Nat.lt_of_le_of_lt (h40 cl.toNat (by omega)) q40)
    exact Nat.lt_trans this (by decide)
  refine v_cV (av := [.long (jL 10), .int (iI (cl.toNat:Nat))]) (st := []) zyX7_growOften lX0_139 h_19 rfl (p_growOften (d := 4) (x := 10) hU (by decide) (by decide) (by omega) (Nat.lt_trans hU1 (by decide))) dX0_decimalOf_34 rfl rfl (Nat.le_of_ble_eq_true rfl) (by omega) (Nat.le_of_ble_eq_true rfl) (Nat.le_of_ble_eq_true rfl) (Or.inl (fun _ _ _ q => ZN q)) (fun r9 H2 n9 q9 => ?_)
  obtain ⟨rfl, q9n, hU, fr8⟩ := q9
  have q9n := q9n.symm
  subst q9n
  have h_15 := (fr8 15 (by decide)).trans h_15
  have h_18 := (fr8 18 (by decide)).trans h_18
  have h_23 := (fr8 23 (by decide)).trans h_23
  have hQ := hQ.fr fr8 (by decide) (by decide)
  have hL := hL.fr fr8 (by decide) (by decide)
  have hwF := hwF.fr fr8 (by decide) (by decide)
  have hwB := hwB.fr fr8 (by decide) (by decide)
  have hwT := hwT.fr fr8 (by decide) (by decide)
  have fr := fr.tr fr8 (by decide)
  refine v_aload_n dX0_decimalOf_37 rfl ?_
  refine v_get fX0_33 dX0_decimalOf_38 h_15 (by decide) rfl ?_
  refine v_lconst (jL 1) dX0_decimalOf_41 rfl ?_
  obtain ⟨u921, f921, h_21, -⟩ := id hL
  refine v_cV (av := [.long (jL 1)]) (st := []) zyX7_put lX0_92 h_21 rfl (p_put (d := 4) (x := 1) hL (by decide) (by decide)) dX0_decimalOf_42 rfl rfl (Nat.le_of_ble_eq_true rfl) (by omega) (Nat.le_of_ble_eq_true rfl) (Nat.le_of_ble_eq_true rfl) (Or.inl (fun _ _ _ q => ZN q)) (fun r9 H3 n9 q9 => ?_)
  obtain ⟨rfl, q9n, hL, fr7⟩ := q9
  have q9n := q9n.symm
  subst q9n
  have h_15 := (fr7 15 (by decide)).trans h_15
  have h_18 := (fr7 18 (by decide)).trans h_18
  have h_23 := (fr7 23 (by decide)).trans h_23
  have hQ := hQ.fr fr7 (by decide) (by decide)
  have hU := hU.fr fr7 (by decide) (by decide)
  have hwF := hwF.fr fr7 (by decide) (by decide)
  have hwB := hwB.fr fr7 (by decide) (by decide)
  have hwT := hwT.fr fr7 (by decide) (by decide)
  have fr := fr.tr fr7 (by decide)
  refine v_aload_n dX0_decimalOf_45 rfl ?_
  refine v_get fX0_33 dX0_decimalOf_46 h_15 (by decide) rfl ?_
  refine v_ldc2_w (v := jL 10) kX0_149 dX0_decimalOf_49 ?_
  refine v_iconst (iI 0) dX0_decimalOf_52 rfl ?_
  refine v_iload dX0_decimalOf_53 rfl ?_
  refine w_ineg dX0_decimalOf_55 ?_
  refine v_cS (av := [.int (iI 0), .int (iI (-cl))]) (st := [.long (jL 10), .ref 21]) zyJ9_max_7cf53 lX0_104 (p_max (d := 4) (by decide) (by omega)) dX0_decimalOf_56 rfl rfl (Nat.le_of_ble_eq_true rfl) (by omega) (Nat.le_of_ble_eq_true rfl) (Nat.le_of_ble_eq_true rfl) (Or.inl (fun _ _ _ q => ZN q)) (fun r9 K4 n9 q9 => ?_)
  obtain ⟨rfl, q9n, q9h⟩ := q9
  have q9n := q9n.symm
  subst q9n
  have q9h := q9h.symm
  subst q9h
  refine w_ei ((-cl).toNat:Nat) (by omega) ?_
  obtain ⟨u921, f921, h_21, -⟩ := id hL
  have hL1 : 1 * 10 ^ (-cl).toNat < 2 ^ 333 := by rw [Nat.one_mul]; exact Nat.lt_of_le_of_lt (h100 _ (by omega)) q100
  refine v_cV (av := [.long (jL 10), .int (iI ((-cl).toNat:Nat))]) (st := []) zyX7_growOften lX0_139 h_21 rfl (p_growOften (d := 4) (x := 10) hL (by decide) (by decide) (by omega) (Nat.lt_trans hL1 (by decide))) dX0_decimalOf_59 rfl rfl (Nat.le_of_ble_eq_true rfl) (by omega) (Nat.le_of_ble_eq_true rfl) (Nat.le_of_ble_eq_true rfl) (Or.inl (fun _ _ _ q => ZN q)) (fun r9 H4 n9 q9 => ?_)
  obtain ⟨rfl, q9n, hL, fr6⟩ := q9
  have q9n := q9n.symm
  subst q9n
  have h_15 := (fr6 15 (by decide)).trans h_15
  have h_18 := (fr6 18 (by decide)).trans h_18
  have h_23 := (fr6 23 (by decide)).trans h_23
  have hQ := hQ.fr fr6 (by decide) (by decide)
  have hU := hU.fr fr6 (by decide) (by decide)
  have hwF := hwF.fr fr6 (by decide) (by decide)
  have hwB := hwB.fr fr6 (by decide) (by decide)
  have hwT := hwT.fr fr6 (by decide) (by decide)
  have fr := fr.tr fr6 (by decide)
  refine v_iload dX0_decimalOf_62 rfl ?_
  refine w_if_lt 81 dX0_decimalOf_64 (by decide) (by omega) (fun c1 => ?_) (fun c1 => ?_)
  · skip
    refine v_aload_n dX0_decimalOf_81 rfl ?_
    refine v_iconst (iI 0) dX0_decimalOf_82 rfl ?_
    refine v_iload_n dX0_decimalOf_83 rfl ?_
    refine v_iload dX0_decimalOf_84 rfl ?_
    have e0 : cl.toNat = 0 := by omega
    rw [e0] at hU hU1
    have hpp : 0 < 10 ^ (-cl).toNat := Nat.pow_pos (by decide)
    refine v_cV (av := [.int (iI 0), .int (iI (bz mi)), .int (iI (w:Nat))]) (st := []) zyX0_divided lX0_96 h_15 rfl (p_divided (d := 4) ⟨h_15, ⟨_, _, hQ⟩, h_18, ⟨_, hU⟩, ⟨_, hL⟩, _, _, _, h_23, hwF, hwB, _, hwT⟩ hU hL (by omega) (nb_le hU1) (nb_le (Nat.lt_trans hL1 (by decide))) (by decide) (by decide) hw) dX0_decimalOf_86 rfl rfl (Nat.le_of_ble_eq_true rfl) (by omega) (Nat.le_of_ble_eq_true rfl) (Nat.le_of_ble_eq_true rfl) (Or.inl (fun _ _ _ q => ZN q)) (fun r9 H5 n9 q9 => ?_)
    obtain ⟨rfl, q9n, hA9, fr5⟩ := q9
    have q9n := q9n.symm
    subst q9n
    rw [show dvA w mi (D * 10 ^ 0) (1 * 10 ^ (-cl).toNat) 0 = dcA w mi D tens from by unfold dcA; rw [ecl, if_neg (by omega)]]
    exact v_lret dX0_decimalOf_89 trivial (Nat.le_of_ble_eq_true rfl) (Nat.le_of_ble_eq_true rfl) ⟨rfl, rfl, hA9, fr.tr fr5 (by decide)⟩
  · skip
    refine v_iload dX0_decimalOf_67 rfl ?_
    refine v_iload_n dX0_decimalOf_69 rfl ?_
    refine v_aload_n dX0_decimalOf_70 rfl ?_
    refine v_get fX0_29 dX0_decimalOf_71 h_15 (by decide) rfl ?_
    refine v_iconst (iI 0) dX0_decimalOf_74 rfl ?_
    refine v_cS (av := [.int (iI (w:Nat)), .int (iI (bz mi)), .ref 19, .int (iI 0)]) (st := []) zyX4_ofWide lX0_77 (p_ofWide (d := 4) hU (by decide) hw (by decide)) dX0_decimalOf_75 rfl rfl (Nat.le_of_ble_eq_true rfl) (by omega) (Nat.le_of_ble_eq_true rfl) (Nat.le_of_ble_eq_true rfl) (Or.inl (fun _ _ _ q => ZN q)) (fun r9 K5 n9 q9 => ?_)
    obtain ⟨rfl, q9n, q9h⟩ := q9
    have q9n := q9n.symm
    subst q9n
    have q9h := q9h.symm
    subst q9h
    rw [show rwd w mi (D * 10 ^ cl.toNat) 0 = dcA w mi D tens from by unfold dcA; rw [ecl, if_pos (by omega)]]
    refine v_goto 89 dX0_decimalOf_78 (by decide) ?_
    exact v_lret dX0_decimalOf_89 trivial (Nat.le_of_ble_eq_true rfl) (Nat.le_of_ble_eq_true rfl) ⟨rfl, rfl, ⟨h_15, ⟨_, _, hQ⟩, h_18, ⟨_, hU⟩, ⟨_, hL⟩, _, _, _, h_23, hwF, hwB, _, hwT⟩, fr⟩
