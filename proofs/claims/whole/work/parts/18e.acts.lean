/-! The acts: inverse roots, distances, powers, decimals -/
def iM (sg : Nat) (ex : Int) : Nat := sg * 2 ^ (ex % 2).toNat
def iL (sg : Nat) (ex : Int) : Nat := 31 + nb (iM sg ex) / 2
def iS (sg : Nat) (ex : Int) : Nat := skf (iM sg ex) (1 * 2 ^ (2 * iL sg ex)) 2 32 0
def irA (n : Nat) (na mi : Bool) (sg : Nat) (ex : Int) : Nat := if na = true ∨ mi = true ∨ sg = 0 then 2 ^ (n - 1) else rlg n false (iS sg ex) (-(iL sg ex : Nat) - ex / 2) (decide (iS sg ex = 0 ∨ iM sg ex * iS sg ex ^ 2 < 1 * 2 ^ (2 * iL sg ex)))
set_option maxHeartbeats 4000000 in
set_option maxRecDepth 100000 in
theorem p_inverseRootOf {d n w sg : Nat} {na mi : Bool} {ex : Int} {h : zH} (hA : AC h) (hp : PO h 12 na mi sg ex) (hd : 4 ≤ d) (hw : 3 ≤ w ∧ w ≤ 32) :
    zM yX0_inverseRootOf cX0_inverseRootOf 10 (some .long) d 0 0 [.ref 15, .ref 12, .int (iI (w:Nat))] h n (fun r h' n' => r = some (.long (jL (irA w na mi sg ex : Nat))) ∧ n' = n ∧ AC h' ∧ zFr ACS h h') := by
  obtain ⟨h_15, ⟨qn, qV, hQ⟩, h_18, ⟨u0, hU⟩, ⟨l0, hL⟩, F0, B0, mo0, h_23, hwF, hwB, t0, hwT⟩ := id hA
  obtain ⟨h_12, hs, hx, hx'⟩ := hp
  refine zM_of zyX0_inverseRootOf rfl (Nat.le_of_ble_eq_true rfl) (fun X hX => ?_)
  have fr : zFr ACS h h := zFr.rf
  have nr : (na = true ∨ mi = true ∨ sg = 0) → (zV X (fun r h' n' => r = some (.long (jL (irA w na mi sg ex : Nat))) ∧ n' = n ∧ AC h' ∧ zFr ACS h h') cX0_inverseRootOf 10 RX0 (some .long) d 0 0 23 [(0, .ref 15), (1, .ref 12), (2, .int (iI (w:Nat)))] [] h n 0 0) := by
    intro hn
    refine v_iload_n dX0_inverseRootOf_23 rfl ?_
    refine v_cS (av := [.int (iI (w:Nat))]) (st := []) zyX4_notReal lX0_47 (p_notReal (d := 3) (by omega)) dX0_inverseRootOf_24 rfl rfl (Nat.le_of_ble_eq_true rfl) (by omega) (Nat.le_of_ble_eq_true rfl) (Nat.le_of_ble_eq_true rfl) (Or.inl (fun _ _ _ q => ZN q)) (fun r9 K1 n9 q9 => ?_)
    obtain ⟨rfl, q9n, q9h⟩ := q9
    have q9n := q9n.symm
    subst q9n
    have q9h := q9h.symm
    subst q9h
    exact v_lret dX0_inverseRootOf_27 trivial (Nat.le_of_ble_eq_true rfl) (Nat.le_of_ble_eq_true rfl) ⟨by unfold irA; rw [if_pos hn], rfl, hA, fr⟩
  refine v_aload_n dX0_inverseRootOf_0 rfl ?_
  refine v_get fX0_43 dX0_inverseRootOf_1 h_12 (by decide) rfl ?_
  refine w_ifb_ne 23 dX0_inverseRootOf_4 (by decide) (fun c1 => ?_) (fun c1 => ?_)
  · exact nr (Or.inl c1)
  · skip
    refine v_aload_n dX0_inverseRootOf_7 rfl ?_
    refine v_get fX0_53 dX0_inverseRootOf_8 h_12 (by decide) rfl ?_
    refine w_ifb_ne 23 dX0_inverseRootOf_11 (by decide) (fun c2 => ?_) (fun c2 => ?_)
    · exact nr (Or.inr (Or.inl c2))
    · skip
      refine v_aload_n dX0_inverseRootOf_14 rfl ?_
      refine v_get fX0_56 dX0_inverseRootOf_15 h_12 (by decide) rfl ?_
      refine v_lconst (jL 0) dX0_inverseRootOf_18 rfl ?_
      refine w_lcmp_ne 28 dX0_inverseRootOf_19 dX0_inverseRootOf_20 (by decide) (by omega) (by decide) (fun c3 => ?_) (fun c3 => ?_)
      · have h0 : sg ≠ 0 := by omega
        have hn : ¬ (na = true ∨ mi = true ∨ sg = 0) := by
          rw [c1, c2]; rintro (z | z | z)
          · exact absurd z (by decide)
          · exact absurd z (by decide)
          · exact h0 z
        obtain ⟨o, eo⟩ : ∃ o, (ex % 2).toNat = o := ⟨_, rfl⟩
        have ho : o ≤ 1 := by omega
        have hP1 : 2 ^ o ≤ 2 := by
          have : 2 ^ o ≤ 2 ^ 1 := Nat.pow_le_pow_right (by decide) ho
          omega
        obtain ⟨m, em⟩ : ∃ m, iM sg ex = m := ⟨_, rfl⟩
        have em2 : sg * 2 ^ o = m := by rw [← em, ← eo]; rfl
        have hm0 : m ≠ 0 := by rw [← em2]; exact Nat.mul_ne_zero h0 (by have := p_pos o; omega)
        have hm : m < 2147483648 := by
          have : sg * 2 ^ o ≤ sg * 2 := Nat.mul_le_mul_left _ hP1
          omega
        have hnm : nb m ≤ 31 := nb_le (k := 31) hm
        obtain ⟨l, el⟩ : ∃ l, iL sg ex = l := ⟨_, rfl⟩
        have el2 : 31 + nb m / 2 = l := by rw [← el, ← em]; rfl
        have hBl : 1 * 2 ^ (2 * l) < 2 ^ 512 := by rw [Nat.one_mul]; exact Nat.pow_lt_pow_right (by decide) (by omega)
        have hFl : m * (2 ^ 32) ^ 2 ≤ 2 ^ 512 := by
          have : m * (2 ^ 32) ^ 2 ≤ 2147483648 * (2 ^ 32) ^ 2 := Nat.mul_le_mul_right _ (by omega)
          exact Nat.le_trans this (by decide)
        have hS : iS sg ex < 4294967296 := by
          unfold iS
          rw [em, el]
          have hsp := skf_spec (F := m) (B := 1 * 2 ^ (2 * l)) (k := 2) 32 0 (by rw [Nat.zero_pow (by decide)]; omega) (by
            rw [Nat.zero_add, Nat.one_mul, ← Nat.pow_mul]
            have h6 := Nat.mul_le_mul_right (2 ^ (32 * 2)) (nb_lo hm0)
            rw [← Nat.pow_add] at h6
            have h7 : 2 ^ (2 * l) < 2 ^ (nb m - 1 + 32 * 2) := Nat.pow_lt_pow_right (by decide) (by have := nb_pos hm0; omega)
            omega)
          omega
        refine v_aload_n dX0_inverseRootOf_28 rfl ?_
        refine v_get fX0_60 dX0_inverseRootOf_29 h_12 (by decide) rfl ?_
        refine v_iconst (iI 1) dX0_inverseRootOf_32 rfl ?_
        refine w_iandm dX0_inverseRootOf_33 1 2 rfl (by decide) rfl ?_
        refine w_ei (o:Nat) (by omega) ?_
        refine v_istore_n (i := 3) (lv' := [(3, .int (iI (o:Nat))), (0, .ref 15), (1, .ref 12), (2, .int (iI (w:Nat)))]) dX0_inverseRootOf_34 rfl (by decide) rfl ?_
        refine v_aload_n dX0_inverseRootOf_35 rfl ?_
        refine v_get fX0_56 dX0_inverseRootOf_36 h_12 (by decide) rfl ?_
        refine v_iload_n dX0_inverseRootOf_39 rfl ?_
        refine w_lshl dX0_inverseRootOf_40 o (2 ^ o) rfl (by omega) (by omega) ?_
        refine w_el (m:Nat) (by rw [ipw, ← Int.natCast_mul, em2]) ?_
        refine v_lstore (i := 4) (lv' := [(4, .long (jL (m:Nat))), (3, .int (iI (o:Nat))), (0, .ref 15), (1, .ref 12), (2, .int (iI (w:Nat)))]) dX0_inverseRootOf_41 (by decide) rfl ?_
        refine v_aload_n dX0_inverseRootOf_43 rfl ?_
        refine v_get fX0_60 dX0_inverseRootOf_44 h_12 (by decide) rfl ?_
        refine v_iload_n dX0_inverseRootOf_47 rfl ?_
        refine w_isub dX0_inverseRootOf_48 ?_
        refine v_iconst (iI 2) dX0_inverseRootOf_49 rfl ?_
        refine w_idiv dX0_inverseRootOf_50 (by omega) (by decide) ?_
        have e5 : (ex - (o : Int)).tdiv 2 = ex / 2 := by
          have : ex - (o : Int) = ex / 2 * 2 := by omega
          rw [this, Int.mul_tdiv_cancel _ (by decide)]
        refine w_ei (ex / 2) e5 ?_
        refine v_istore (i := 6) (lv' := [(6, .int (iI (ex / 2))), (4, .long (jL (m:Nat))), (3, .int (iI (o:Nat))), (0, .ref 15), (1, .ref 12), (2, .int (iI (w:Nat)))]) dX0_inverseRootOf_51 (by decide) rfl ?_
        refine v_aload_n dX0_inverseRootOf_53 rfl ?_
        refine v_get fX0_39 dX0_inverseRootOf_54 h_15 (by decide) rfl ?_
        refine v_get fX0_113 dX0_inverseRootOf_57 h_23 (by decide) rfl ?_
        refine v_lload dX0_inverseRootOf_60 rfl ?_
        obtain ⟨u924, f924, h_24, -⟩ := id hwF
        refine v_cV (av := [.long (jL (m:Nat))]) (st := []) zyX7_put lX0_92 h_24 rfl (p_put (d := 3) hwF (by decide) (by omega)) dX0_inverseRootOf_62 rfl rfl (Nat.le_of_ble_eq_true rfl) (by omega) (Nat.le_of_ble_eq_true rfl) (Nat.le_of_ble_eq_true rfl) (Or.inl (fun _ _ _ q => ZN q)) (fun r9 H1 n9 q9 => ?_)
        obtain ⟨rfl, q9n, hwF, fr9⟩ := q9
        have q9n := q9n.symm
        subst q9n
        have h_15 := (fr9 15 (by decide)).trans h_15
        have h_18 := (fr9 18 (by decide)).trans h_18
        have h_23 := (fr9 23 (by decide)).trans h_23
        have h_12 := (fr9 12 (by decide)).trans h_12
        have hQ := hQ.fr fr9 (by decide) (by decide)
        have hL := hL.fr fr9 (by decide) (by decide)
        have hU := hU.fr fr9 (by decide) (by decide)
        have hwB := hwB.fr fr9 (by decide) (by decide)
        have hwT := hwT.fr fr9 (by decide) (by decide)
        have fr := fr.tr fr9 (by decide)
        refine v_bipush (iI 31) dX0_inverseRootOf_65 rfl ?_
        refine v_aload_n dX0_inverseRootOf_67 rfl ?_
        refine v_get fX0_39 dX0_inverseRootOf_68 h_15 (by decide) rfl ?_
        refine v_get fX0_113 dX0_inverseRootOf_71 h_23 (by decide) rfl ?_
        obtain ⟨u924, f924, h_24, -⟩ := id hwF
        refine v_cV (av := []) (st := [.int (iI 31)]) zyX7_bits lX0_129 h_24 rfl (p_bits (d := 3) hwF (by decide)) dX0_inverseRootOf_74 rfl rfl (Nat.le_of_ble_eq_true rfl) (by omega) (Nat.le_of_ble_eq_true rfl) (Nat.le_of_ble_eq_true rfl) (Or.inl (fun _ _ _ q => ZN q)) (fun r9 K1 n9 q9 => ?_)
        obtain ⟨rfl, q9n, q9h⟩ := q9
        have q9n := q9n.symm
        subst q9n
        have q9h := q9h.symm
        subst q9h
        refine v_iconst (iI 2) dX0_inverseRootOf_77 rfl ?_
        refine w_idivn dX0_inverseRootOf_78 (by omega) (by decide) ?_
        refine w_iadd dX0_inverseRootOf_79 ?_
        refine w_ei (l:Nat) (by omega) ?_
        refine v_istore (i := 7) (lv' := [(7, .int (iI (l:Nat))), (6, .int (iI (ex / 2))), (4, .long (jL (m:Nat))), (3, .int (iI (o:Nat))), (0, .ref 15), (1, .ref 12), (2, .int (iI (w:Nat)))]) dX0_inverseRootOf_80 (by decide) rfl ?_
        refine v_aload_n dX0_inverseRootOf_82 rfl ?_
        refine v_get fX0_39 dX0_inverseRootOf_83 h_15 (by decide) rfl ?_
        refine v_get fX0_116 dX0_inverseRootOf_86 h_23 (by decide) rfl ?_
        refine v_lconst (jL 1) dX0_inverseRootOf_89 rfl ?_
        obtain ⟨u926, f926, h_26, -⟩ := id hwB
        refine v_cV (av := [.long (jL 1)]) (st := []) zyX7_put lX0_92 h_26 rfl (p_put (d := 3) (x := 1) hwB (by decide) (by decide)) dX0_inverseRootOf_90 rfl rfl (Nat.le_of_ble_eq_true rfl) (by omega) (Nat.le_of_ble_eq_true rfl) (Nat.le_of_ble_eq_true rfl) (Or.inl (fun _ _ _ q => ZN q)) (fun r9 H2 n9 q9 => ?_)
        obtain ⟨rfl, q9n, hwB, fr8⟩ := q9
        have q9n := q9n.symm
        subst q9n
        have h_15 := (fr8 15 (by decide)).trans h_15
        have h_18 := (fr8 18 (by decide)).trans h_18
        have h_23 := (fr8 23 (by decide)).trans h_23
        have h_12 := (fr8 12 (by decide)).trans h_12
        have hQ := hQ.fr fr8 (by decide) (by decide)
        have hL := hL.fr fr8 (by decide) (by decide)
        have hU := hU.fr fr8 (by decide) (by decide)
        have hwF := hwF.fr fr8 (by decide) (by decide)
        have hwT := hwT.fr fr8 (by decide) (by decide)
        have fr := fr.tr fr8 (by decide)
        refine v_aload_n dX0_inverseRootOf_93 rfl ?_
        refine v_get fX0_39 dX0_inverseRootOf_94 h_15 (by decide) rfl ?_
        refine v_get fX0_116 dX0_inverseRootOf_97 h_23 (by decide) rfl ?_
        refine v_iconst (iI 2) dX0_inverseRootOf_100 rfl ?_
        refine v_iload dX0_inverseRootOf_101 rfl ?_
        refine w_imul dX0_inverseRootOf_103 ?_
        refine w_ei (2 * l:Nat) (by omega) ?_
        obtain ⟨u926, f926, h_26, -⟩ := id hwB
        refine v_cV (av := [.int (iI (2 * l:Nat))]) (st := []) zyX7_shiftUp lX0_119 h_26 rfl (p_shiftUp (d := 3) hwB (by decide) (by omega) hBl) dX0_inverseRootOf_104 rfl rfl (Nat.le_of_ble_eq_true rfl) (by omega) (Nat.le_of_ble_eq_true rfl) (Nat.le_of_ble_eq_true rfl) (Or.inl (fun _ _ _ q => ZN q)) (fun r9 H3 n9 q9 => ?_)
        obtain ⟨rfl, q9n, hwB, fr7⟩ := q9
        have q9n := q9n.symm
        subst q9n
        have h_15 := (fr7 15 (by decide)).trans h_15
        have h_18 := (fr7 18 (by decide)).trans h_18
        have h_23 := (fr7 23 (by decide)).trans h_23
        have h_12 := (fr7 12 (by decide)).trans h_12
        have hQ := hQ.fr fr7 (by decide) (by decide)
        have hL := hL.fr fr7 (by decide) (by decide)
        have hU := hU.fr fr7 (by decide) (by decide)
        have hwF := hwF.fr fr7 (by decide) (by decide)
        have hwT := hwT.fr fr7 (by decide) (by decide)
        have fr := fr.tr fr7 (by decide)
        refine v_aload_n dX0_inverseRootOf_107 rfl ?_
        refine v_get fX0_39 dX0_inverseRootOf_108 h_15 (by decide) rfl ?_
        refine v_iconst (iI 2) dX0_inverseRootOf_111 rfl ?_
        refine v_cV (av := [.int (iI 2)]) (st := []) zyX5_seek lX0_123 h_23 rfl (p_seek (d := 3) (k := 2) ⟨h_23, hwF, hwB, _, hwT⟩ (by decide) (by decide) hFl) dX0_inverseRootOf_112 rfl rfl (Nat.le_of_ble_eq_true rfl) (by omega) (Nat.le_of_ble_eq_true rfl) (Nat.le_of_ble_eq_true rfl) (Or.inl (fun _ _ _ q => ZN q)) (fun r9 H5 n9 q9 => ?_)
        obtain ⟨rfl, q9n, ⟨h_23, hwF, hwB, t1, hwT⟩, fr5⟩ := q9
        have q9n := q9n.symm
        subst q9n
        have es : skf m (1 * 2 ^ (2 * l)) 2 32 0 = iS sg ex := by unfold iS; rw [em, el]
        rw [es] at h_23 ⊢
        have h_15 := (fr5 15 (by decide)).trans h_15
        have h_18 := (fr5 18 (by decide)).trans h_18
        have h_12 := (fr5 12 (by decide)).trans h_12
        have hQ := hQ.fr fr5 (by decide) (by decide)
        have hL := hL.fr fr5 (by decide) (by decide)
        have hU := hU.fr fr5 (by decide) (by decide)
        have fr := fr.tr fr5 (by decide)
        refine v_lstore (i := 8) (lv' := [(8, .long (jL (iS sg ex:Nat))), (7, .int (iI (l:Nat))), (6, .int (iI (ex / 2))), (4, .long (jL (m:Nat))), (3, .int (iI (o:Nat))), (0, .ref 15), (1, .ref 12), (2, .int (iI (w:Nat)))]) dX0_inverseRootOf_115 (by decide) rfl ?_
        refine v_iload_n dX0_inverseRootOf_117 rfl ?_
        refine v_iconst (iI 0) dX0_inverseRootOf_118 rfl ?_
        refine w_ei (bz false) rfl ?_
        refine v_lload dX0_inverseRootOf_119 rfl ?_
        refine v_iload dX0_inverseRootOf_121 rfl ?_
        refine w_ineg dX0_inverseRootOf_123 ?_
        refine v_iload dX0_inverseRootOf_124 rfl ?_
        refine w_isub dX0_inverseRootOf_126 ?_
        refine v_aload_n dX0_inverseRootOf_127 rfl ?_
        refine v_get fX0_39 dX0_inverseRootOf_128 h_15 (by decide) rfl ?_
        refine v_get fX0_126 dX0_inverseRootOf_131 h_23 (by decide) rfl ?_
        refine v_cS (av := [.int (iI (w:Nat)), .int (iI (bz false)), .long (jL (iS sg ex:Nat)), .int (iI ((-(l:Nat)) - (ex / 2))), .int (iI (bz (decide (iS sg ex = 0 ∨ m * (iS sg ex) ^ 2 < 1 * 2 ^ (2 * l)))))]) (st := []) zyX4_ofLong lX0_64 (p_ofLong (d := 2) (by decide) hw (by omega) (by omega)) dX0_inverseRootOf_134 rfl rfl (Nat.le_of_ble_eq_true rfl) (by omega) (Nat.le_of_ble_eq_true rfl) (Nat.le_of_ble_eq_true rfl) (Or.inl (fun _ _ _ q => ZN q)) (fun r9 K2 n9 q9 => ?_)
        obtain ⟨rfl, q9n, q9h⟩ := q9
        have q9n := q9n.symm
        subst q9n
        have q9h := q9h.symm
        subst q9h
        rw [show rlg w false (iS sg ex) (-(l : Nat) - ex / 2) (decide (iS sg ex = 0 ∨ m * (iS sg ex) ^ 2 < 1 * 2 ^ (2 * l))) = irA w na mi sg ex from by unfold irA; rw [if_neg hn, em, el]]
        exact v_lret dX0_inverseRootOf_137 trivial (Nat.le_of_ble_eq_true rfl) (Nat.le_of_ble_eq_true rfl) ⟨rfl, rfl, ⟨h_15, ⟨_, _, hQ⟩, h_18, ⟨_, hU⟩, ⟨_, hL⟩, _, _, _, h_23, hwF, hwB, _, hwT⟩, fr⟩
      · exact nr (Or.inr (Or.inr (by omega)))
/-- distances: z is the sum of the squares -/
def hH (z : Nat) : Int := ((nb z : Nat) - 61 : Int) / 2
def hF (z : Nat) : Nat := 1 * 2 ^ (2 * hH z).toNat
def hB (z : Nat) : Nat := z * 2 ^ (-2 * hH z).toNat
def hS (z : Nat) : Nat := skf (hF z) (hB z) 2 32 0
def hyA (n : Nat) (z : Nat) : Nat := if z = 0 then 0 else rlg n false (hS z) (hH z - 120) (decide (hS z = 0 ∨ hF z * hS z ^ 2 < hB z))
def dsA (n : Nat) (n1 : Bool) (s1 : Nat) (x1 : Int) (n2 : Bool) (s2 : Nat) (x2 : Int) : Nat := cond (n1 || n2) (2 ^ (n - 1)) (hyA n (qsz (pl2 false (s1 * s1 * 2 ^ (x1 + x1 + 240).toNat) false (s2 * s2 * 2 ^ (x2 + x2 + 240).toNat))))
set_option maxHeartbeats 4000000 in
set_option maxRecDepth 100000 in
theorem p_distanceOf {d n w s1 s2 : Nat} {n1 m1 n2 m2 : Bool} {x1 x2 : Int} {h : zH} (hA : AC h) (hp1 : PO h 12 n1 m1 s1 x1) (hp2 : PO h 13 n2 m2 s2 x2) (hz : nb (qsz (pl2 false (s1 * s1 * 2 ^ (x1 + x1 + 240).toNat) false (s2 * s2 * 2 ^ (x2 + x2 + 240).toNat))) ≤ 500) (hd : 4 ≤ d) (hw : 3 ≤ w ∧ w ≤ 32) :
    zM yX0_distanceOf cX0_distanceOf 7 (some .long) d 0 0 [.ref 15, .ref 12, .ref 13, .int (iI (w:Nat))] h n (fun r h' n' => r = some (.long (jL (dsA w n1 s1 x1 n2 s2 x2 : Nat))) ∧ n' = n ∧ AC h' ∧ zFr ACS h h') := by
  obtain ⟨h_15, ⟨qn, qV, hQ⟩, h_18, ⟨u0, hU⟩, ⟨l0, hL⟩, F0, B0, mo0, h_23, hwF, hwB, t0, hwT⟩ := id hA
  obtain ⟨h_12, hs1, hx1, hx1'⟩ := hp1
  obtain ⟨h_13, hs2, hx2, hx2'⟩ := hp2
  refine zM_of zyX0_distanceOf rfl (Nat.le_of_ble_eq_true rfl) (fun X hX => ?_)
  have fr : zFr ACS h h := zFr.rf
  refine v_aload_n dX0_distanceOf_0 rfl ?_
  refine v_get fX0_10 dX0_distanceOf_1 h_15 (by decide) rfl ?_
  obtain ⟨f916, h_16, -⟩ := id hQ
  refine v_cV (av := []) (st := []) zyX3_empty lX0_81 h_16 rfl (p_empty (d := 3) hQ) dX0_distanceOf_4 rfl rfl (Nat.le_of_ble_eq_true rfl) (by omega) (Nat.le_of_ble_eq_true rfl) (Nat.le_of_ble_eq_true rfl) (Or.inl (fun _ _ _ q => ZN q)) (fun r9 H1 n9 q9 => ?_)
  obtain ⟨rfl, q9n, hQ, fr9⟩ := q9
  have q9n := q9n.symm
  subst q9n
  have h_15 := (fr9 15 (by decide)).trans h_15
  have h_18 := (fr9 18 (by decide)).trans h_18
  have h_23 := (fr9 23 (by decide)).trans h_23
  have h_12 := (fr9 12 (by decide)).trans h_12
  have h_13 := (fr9 13 (by decide)).trans h_13
  have hL := hL.fr fr9 (by decide) (by decide)
  have hU := hU.fr fr9 (by decide) (by decide)
  have hwF := hwF.fr fr9 (by decide) (by decide)
  have hwB := hwB.fr fr9 (by decide) (by decide)
  have hwT := hwT.fr fr9 (by decide) (by decide)
  have fr := fr.tr fr9 (by decide)
  refine v_aload_n dX0_distanceOf_7 rfl ?_
  refine v_get fX0_10 dX0_distanceOf_8 h_15 (by decide) rfl ?_
  refine v_aload_n dX0_distanceOf_11 rfl ?_
  refine v_aload_n dX0_distanceOf_12 rfl ?_
  refine v_iconst (iI 0) dX0_distanceOf_13 rfl ?_
  refine w_ei (bz false) rfl ?_
  obtain ⟨f916, h_16, -⟩ := id hQ
  refine v_cV (av := [.ref 12, .ref 12, .int (iI (bz false))]) (st := []) zyX3_bring lX0_84 h_16 rfl (p_bring (d := 3) (sh := (x1 + x1 + 240).toNat) hQ h_12 h_12 (by decide) (by omega) (by omega) (by omega) (by omega) (by omega)) dX0_distanceOf_14 rfl rfl (Nat.le_of_ble_eq_true rfl) (by omega) (Nat.le_of_ble_eq_true rfl) (Nat.le_of_ble_eq_true rfl) (Or.inl (fun _ _ _ q => ZN q)) (fun r9 H2 n9 q9 => ?_)
  obtain ⟨rfl, q9n, hQ, fr8⟩ := q9
  have q9n := q9n.symm
  subst q9n
  have h_15 := (fr8 15 (by decide)).trans h_15
  have h_18 := (fr8 18 (by decide)).trans h_18
  have h_23 := (fr8 23 (by decide)).trans h_23
  have h_12 := (fr8 12 (by decide)).trans h_12
  have h_13 := (fr8 13 (by decide)).trans h_13
  have hL := hL.fr fr8 (by decide) (by decide)
  have hU := hU.fr fr8 (by decide) (by decide)
  have hwF := hwF.fr fr8 (by decide) (by decide)
  have hwB := hwB.fr fr8 (by decide) (by decide)
  have hwT := hwT.fr fr8 (by decide) (by decide)
  have fr := fr.tr fr8 (by decide)
  refine v_aload_n dX0_distanceOf_17 rfl ?_
  refine v_get fX0_10 dX0_distanceOf_18 h_15 (by decide) rfl ?_
  refine v_aload_n dX0_distanceOf_21 rfl ?_
  refine v_aload_n dX0_distanceOf_22 rfl ?_
  refine v_iconst (iI 0) dX0_distanceOf_23 rfl ?_
  refine w_ei (bz false) rfl ?_
  obtain ⟨f916, h_16, -⟩ := id hQ
  refine v_cV (av := [.ref 13, .ref 13, .int (iI (bz false))]) (st := []) zyX3_bring lX0_84 h_16 rfl (p_bring (d := 3) (sh := (x2 + x2 + 240).toNat) hQ h_13 h_13 (by decide) (by omega) (by omega) (by omega) (by omega) (by omega)) dX0_distanceOf_24 rfl rfl (Nat.le_of_ble_eq_true rfl) (by omega) (Nat.le_of_ble_eq_true rfl) (Nat.le_of_ble_eq_true rfl) (Or.inl (fun _ _ _ q => ZN q)) (fun r9 H3 n9 q9 => ?_)
  obtain ⟨rfl, q9n, hQ, fr7⟩ := q9
  have q9n := q9n.symm
  subst q9n
  have h_15 := (fr7 15 (by decide)).trans h_15
  have h_18 := (fr7 18 (by decide)).trans h_18
  have h_23 := (fr7 23 (by decide)).trans h_23
  have h_12 := (fr7 12 (by decide)).trans h_12
  have h_13 := (fr7 13 (by decide)).trans h_13
  have hL := hL.fr fr7 (by decide) (by decide)
  have hU := hU.fr fr7 (by decide) (by decide)
  have hwF := hwF.fr fr7 (by decide) (by decide)
  have hwB := hwB.fr fr7 (by decide) (by decide)
  have hwT := hwT.fr fr7 (by decide) (by decide)
  have fr := fr.tr fr7 (by decide)
  obtain ⟨nn, enn⟩ : ∃ nn, (n1 || n2) = nn := ⟨_, rfl⟩
  obtain ⟨V, eV⟩ : ∃ V, pl2 false (s1 * s1 * 2 ^ (x1 + x1 + 240).toNat) false (s2 * s2 * 2 ^ (x2 + x2 + 240).toNat) = V := ⟨_, rfl⟩
  rw [eV] at hz
  have eb1 : (false || n1 || n1 || n2 || n2) = nn := by rw [← enn]; cases n1 <;> cases n2 <;> rfl
  have eb2 : (cond nn (cond (false || n1 || n1) 0 (qad 0 (false ^^ m1 ^^ m1) (s1 * s1 * 2 ^ (x1 + x1 + 240).toNat))) (qad (cond (false || n1 || n1) 0 (qad 0 (false ^^ m1 ^^ m1) (s1 * s1 * 2 ^ (x1 + x1 + 240).toNat))) (false ^^ m2 ^^ m2) (s2 * s2 * 2 ^ (x2 + x2 + 240).toNat))) = cond nn (cond n1 0 (qad 0 false (s1 * s1 * 2 ^ (x1 + x1 + 240).toNat))) V := by
    rw [← eV, ← enn]; unfold pl2
    rw [show (false ^^ m1 ^^ m1) = false from by cases m1 <;> rfl, show (false ^^ m2 ^^ m2) = false from by cases m2 <;> rfl]
    cases n1 <;> cases n2 <;> rfl
  rw [eb1, eb2] at hQ
  have ed : dsA w n1 s1 x1 n2 s2 x2 = cond nn (2 ^ (w - 1)) (hyA w (qsz V)) := by unfold dsA; rw [enn, eV]
  rw [ed]
  obtain ⟨f916, h_16, -⟩ := id hQ
  refine v_aload_n dX0_distanceOf_27 rfl ?_
  refine v_get fX0_10 dX0_distanceOf_28 h_15 (by decide) rfl ?_
  refine v_get fX0_68 dX0_distanceOf_31 h_16 (by decide) rfl ?_
  refine w_ifb_eq 42 dX0_distanceOf_34 (by decide) (fun c1 => ?_) (fun c1 => ?_)
  · rw [c1, cond_false] at hQ
    refine v_aload_n dX0_distanceOf_42 rfl ?_
    refine v_get fX0_10 dX0_distanceOf_43 h_15 (by decide) rfl ?_
    refine v_aload_n dX0_distanceOf_46 rfl ?_
    refine v_get fX0_39 dX0_distanceOf_47 h_15 (by decide) rfl ?_
    refine v_get fX0_116 dX0_distanceOf_50 h_23 (by decide) rfl ?_
    obtain ⟨f916, h_16, -⟩ := id hQ
    refine v_cV (av := [.ref 26]) (st := []) zyX3_copySize lX0_69 h_16 rfl (p_copySize (d := 3) hQ hwB (by decide) (by decide)) dX0_distanceOf_53 rfl rfl (Nat.le_of_ble_eq_true rfl) (by omega) (Nat.le_of_ble_eq_true rfl) (Nat.le_of_ble_eq_true rfl) (Or.inl (fun _ _ _ q => ZN q)) (fun r9 H4 n9 q9 => ?_)
    obtain ⟨rfl, q9n, hwB, fr6⟩ := q9
    have q9n := q9n.symm
    subst q9n
    have hQ := hQ.fr fr6 (by decide) (by decide)
    have h_15 := (fr6 15 (by decide)).trans h_15
    have h_18 := (fr6 18 (by decide)).trans h_18
    have h_23 := (fr6 23 (by decide)).trans h_23
    have h_12 := (fr6 12 (by decide)).trans h_12
    have h_13 := (fr6 13 (by decide)).trans h_13
    have hL := hL.fr fr6 (by decide) (by decide)
    have hU := hU.fr fr6 (by decide) (by decide)
    have hwF := hwF.fr fr6 (by decide) (by decide)
    have hwT := hwT.fr fr6 (by decide) (by decide)
    have fr := fr.tr fr6 (by decide)
    obtain ⟨z, ez⟩ : ∃ z, qsz V = z := ⟨_, rfl⟩
    rw [ez] at hwB hz ⊢
    refine v_aload_n dX0_distanceOf_56 rfl ?_
    refine v_get fX0_39 dX0_distanceOf_57 h_15 (by decide) rfl ?_
    refine v_get fX0_116 dX0_distanceOf_60 h_23 (by decide) rfl ?_
    obtain ⟨u926, f926, h_26, -⟩ := id hwB
    refine v_cV (av := []) (st := []) zyX7_isNought lX0_132 h_26 rfl (p_isNought (d := 3) hwB) dX0_distanceOf_63 rfl rfl (Nat.le_of_ble_eq_true rfl) (by omega) (Nat.le_of_ble_eq_true rfl) (Nat.le_of_ble_eq_true rfl) (Or.inl (fun _ _ _ q => ZN q)) (fun r9 K1 n9 q9 => ?_)
    obtain ⟨rfl, q9n, q9h⟩ := q9
    have q9n := q9n.symm
    subst q9n
    have q9h := q9h.symm
    subst q9h
    refine w_ifb_eq 71 dX0_distanceOf_66 (by decide) (fun c2 => ?_) (fun c2 => ?_)
    · have c2 := of_decide_eq_false c2
      have hn1 := nb_pos c2
      obtain ⟨hf, ehf⟩ : ∃ hf, hH z = hf := ⟨_, rfl⟩
      have ehf2 : ((nb z : Nat) - 61 : Int) / 2 = hf := ehf
      have eF : hF z = 1 * 2 ^ (2 * hf).toNat := by unfold hF; rw [ehf]
      have eB : hB z = z * 2 ^ (-2 * hf).toNat := by unfold hB; rw [ehf]
      have hF1 : 1 * 2 ^ (2 * hf).toNat < 2 ^ 448 := by rw [Nat.one_mul]; exact Nat.pow_lt_pow_right (by decide) (by omega)
      have hB1 : z * 2 ^ (-2 * hf).toNat < 2 ^ 512 := nb_mul_lt (by omega)
      have hFl : hF z * (2 ^ 32) ^ 2 ≤ 2 ^ 512 := by
        rw [eF]
        have : 1 * 2 ^ (2 * hf).toNat * (2 ^ 32) ^ 2 ≤ 2 ^ 448 * (2 ^ 32) ^ 2 := Nat.mul_le_mul_right _ (by omega)
        exact Nat.le_trans this (by decide)
      have hSl : hS z < 4294967296 := by
        unfold hS
        have hsp := skf_spec (F := hF z) (B := hB z) (k := 2) 32 0 (by rw [Nat.zero_pow (by decide)]; omega) (by
          rw [Nat.zero_add, eF, eB, Nat.one_mul, ← Nat.pow_mul]
          have q1 := Nat.mul_lt_mul_of_pos_right (nb_hi z) (p_pos (-2 * hf).toNat)
          rw [← Nat.pow_add] at q1 ⊢
          exact Nat.lt_of_lt_of_le q1 (Nat.pow_le_pow_right (by decide) (by omega)))
        omega
      refine v_aload_n dX0_distanceOf_71 rfl ?_
      refine v_get fX0_39 dX0_distanceOf_72 h_15 (by decide) rfl ?_
      refine v_get fX0_116 dX0_distanceOf_75 h_23 (by decide) rfl ?_
      obtain ⟨u926, f926, h_26, -⟩ := id hwB
      refine v_cV (av := []) (st := []) zyX7_bits lX0_129 h_26 rfl (p_bits (d := 3) hwB (by decide)) dX0_distanceOf_78 rfl rfl (Nat.le_of_ble_eq_true rfl) (by omega) (Nat.le_of_ble_eq_true rfl) (Nat.le_of_ble_eq_true rfl) (Or.inl (fun _ _ _ q => ZN q)) (fun r9 K2 n9 q9 => ?_)
      obtain ⟨rfl, q9n, q9h⟩ := q9
      have q9n := q9n.symm
      subst q9n
      have q9h := q9h.symm
      subst q9h
      refine v_bipush (iI 61) dX0_distanceOf_81 rfl ?_
      refine w_isub dX0_distanceOf_83 ?_
      refine v_iconst (iI 2) dX0_distanceOf_84 rfl ?_
      refine v_cS (av := [.int (iI ((nb z:Nat) - 61)), .int (iI 2)]) (st := []) zyJ9_floorDiv_7cf53 lX0_110 (p_floorDiv (d := 3) (by omega) (by decide)) dX0_distanceOf_85 rfl rfl (Nat.le_of_ble_eq_true rfl) (by omega) (Nat.le_of_ble_eq_true rfl) (Nat.le_of_ble_eq_true rfl) (Or.inl (fun _ _ _ q => ZN q)) (fun r9 K3 n9 q9 => ?_)
      obtain ⟨rfl, q9n, q9h⟩ := q9
      have q9n := q9n.symm
      subst q9n
      have q9h := q9h.symm
      subst q9h
      refine w_ei hf ehf2 ?_
      refine v_istore (i := 4) (lv' := [(4, .int (iI hf)), (0, .ref 15), (1, .ref 12), (2, .ref 13), (3, .int (iI (w:Nat)))]) dX0_distanceOf_88 (by decide) rfl ?_
      refine v_aload_n dX0_distanceOf_90 rfl ?_
      refine v_get fX0_39 dX0_distanceOf_91 h_15 (by decide) rfl ?_
      refine v_get fX0_113 dX0_distanceOf_94 h_23 (by decide) rfl ?_
      refine v_lconst (jL 1) dX0_distanceOf_97 rfl ?_
      obtain ⟨u924, f924, h_24, -⟩ := id hwF
      refine v_cV (av := [.long (jL 1)]) (st := []) zyX7_put lX0_92 h_24 rfl (p_put (d := 3) (x := 1) hwF (by decide) (by decide)) dX0_distanceOf_98 rfl rfl (Nat.le_of_ble_eq_true rfl) (by omega) (Nat.le_of_ble_eq_true rfl) (Nat.le_of_ble_eq_true rfl) (Or.inl (fun _ _ _ q => ZN q)) (fun r9 H5 n9 q9 => ?_)
      obtain ⟨rfl, q9n, hwF, fr5⟩ := q9
      have q9n := q9n.symm
      subst q9n
      have hQ := hQ.fr fr5 (by decide) (by decide)
      have h_15 := (fr5 15 (by decide)).trans h_15
      have h_18 := (fr5 18 (by decide)).trans h_18
      have h_23 := (fr5 23 (by decide)).trans h_23
      have h_12 := (fr5 12 (by decide)).trans h_12
      have h_13 := (fr5 13 (by decide)).trans h_13
      have hL := hL.fr fr5 (by decide) (by decide)
      have hU := hU.fr fr5 (by decide) (by decide)
      have hwB := hwB.fr fr5 (by decide) (by decide)
      have hwT := hwT.fr fr5 (by decide) (by decide)
      have fr := fr.tr fr5 (by decide)
      refine v_aload_n dX0_distanceOf_101 rfl ?_
      refine v_get fX0_39 dX0_distanceOf_102 h_15 (by decide) rfl ?_
      refine v_get fX0_113 dX0_distanceOf_105 h_23 (by decide) rfl ?_
      refine v_iconst (iI 0) dX0_distanceOf_108 rfl ?_
      refine v_iconst (iI 2) dX0_distanceOf_109 rfl ?_
      refine v_iload dX0_distanceOf_110 rfl ?_
      refine w_imul dX0_distanceOf_112 ?_
      refine v_cS (av := [.int (iI 0), .int (iI (2 * hf))]) (st := [.ref 24]) zyJ9_max_7cf53 lX0_104 (p_max (d := 3) (by decide) (by omega)) dX0_distanceOf_113 rfl rfl (Nat.le_of_ble_eq_true rfl) (by omega) (Nat.le_of_ble_eq_true rfl) (Nat.le_of_ble_eq_true rfl) (Or.inl (fun _ _ _ q => ZN q)) (fun r9 K4 n9 q9 => ?_)
      obtain ⟨rfl, q9n, q9h⟩ := q9
      have q9n := q9n.symm
      subst q9n
      have q9h := q9h.symm
      subst q9h
      refine w_ei ((2 * hf).toNat:Nat) (by omega) ?_
      obtain ⟨u924, f924, h_24, -⟩ := id hwF
      refine v_cV (av := [.int (iI ((2 * hf).toNat:Nat))]) (st := []) zyX7_shiftUp lX0_119 h_24 rfl (p_shiftUp (d := 3) hwF (by decide) (by omega) (by omega)) dX0_distanceOf_116 rfl rfl (Nat.le_of_ble_eq_true rfl) (by omega) (Nat.le_of_ble_eq_true rfl) (Nat.le_of_ble_eq_true rfl) (Or.inl (fun _ _ _ q => ZN q)) (fun r9 H6 n9 q9 => ?_)
      obtain ⟨rfl, q9n, hwF, fr4⟩ := q9
      have q9n := q9n.symm
      subst q9n
      have hQ := hQ.fr fr4 (by decide) (by decide)
      have h_15 := (fr4 15 (by decide)).trans h_15
      have h_18 := (fr4 18 (by decide)).trans h_18
      have h_23 := (fr4 23 (by decide)).trans h_23
      have h_12 := (fr4 12 (by decide)).trans h_12
      have h_13 := (fr4 13 (by decide)).trans h_13
      have hL := hL.fr fr4 (by decide) (by decide)
      have hU := hU.fr fr4 (by decide) (by decide)
      have hwB := hwB.fr fr4 (by decide) (by decide)
      have hwT := hwT.fr fr4 (by decide) (by decide)
      have fr := fr.tr fr4 (by decide)
      refine v_aload_n dX0_distanceOf_119 rfl ?_
      refine v_get fX0_39 dX0_distanceOf_120 h_15 (by decide) rfl ?_
      refine v_get fX0_116 dX0_distanceOf_123 h_23 (by decide) rfl ?_
      refine v_iconst (iI 0) dX0_distanceOf_126 rfl ?_
      refine v_bipush (iI (-2)) dX0_distanceOf_127 rfl ?_
      refine v_iload dX0_distanceOf_129 rfl ?_
      refine w_imul dX0_distanceOf_131 ?_
      refine v_cS (av := [.int (iI 0), .int (iI ((-2) * hf))]) (st := [.ref 26]) zyJ9_max_7cf53 lX0_104 (p_max (d := 3) (by decide) (by omega)) dX0_distanceOf_132 rfl rfl (Nat.le_of_ble_eq_true rfl) (by omega) (Nat.le_of_ble_eq_true rfl) (Nat.le_of_ble_eq_true rfl) (Or.inl (fun _ _ _ q => ZN q)) (fun r9 K5 n9 q9 => ?_)
      obtain ⟨rfl, q9n, q9h⟩ := q9
      have q9n := q9n.symm
      subst q9n
      have q9h := q9h.symm
      subst q9h
      refine w_ei ((-2 * hf).toNat:Nat) (by omega) ?_
      obtain ⟨u926, f926, h_26, -⟩ := id hwB
      refine v_cV (av := [.int (iI ((-2 * hf).toNat:Nat))]) (st := []) zyX7_shiftUp lX0_119 h_26 rfl (p_shiftUp (d := 3) hwB (by decide) (by omega) hB1) dX0_distanceOf_135 rfl rfl (Nat.le_of_ble_eq_true rfl) (by omega) (Nat.le_of_ble_eq_true rfl) (Nat.le_of_ble_eq_true rfl) (Or.inl (fun _ _ _ q => ZN q)) (fun r9 H7 n9 q9 => ?_)
      obtain ⟨rfl, q9n, hwB, fr3⟩ := q9
      have q9n := q9n.symm
      subst q9n
      have hQ := hQ.fr fr3 (by decide) (by decide)
      have h_15 := (fr3 15 (by decide)).trans h_15
      have h_18 := (fr3 18 (by decide)).trans h_18
      have h_23 := (fr3 23 (by decide)).trans h_23
      have h_12 := (fr3 12 (by decide)).trans h_12
      have h_13 := (fr3 13 (by decide)).trans h_13
      have hL := hL.fr fr3 (by decide) (by decide)
      have hU := hU.fr fr3 (by decide) (by decide)
      have hwF := hwF.fr fr3 (by decide) (by decide)
      have hwT := hwT.fr fr3 (by decide) (by decide)
      have fr := fr.tr fr3 (by decide)
      rw [← eF] at hwF
      rw [← eB] at hwB
      refine v_aload_n dX0_distanceOf_138 rfl ?_
      refine v_get fX0_39 dX0_distanceOf_139 h_15 (by decide) rfl ?_
      refine v_iconst (iI 2) dX0_distanceOf_142 rfl ?_
      refine v_cV (av := [.int (iI 2)]) (st := []) zyX5_seek lX0_123 h_23 rfl (p_seek (d := 3) (k := 2) ⟨h_23, hwF, hwB, _, hwT⟩ (by decide) (by decide) hFl) dX0_distanceOf_143 rfl rfl (Nat.le_of_ble_eq_true rfl) (by omega) (Nat.le_of_ble_eq_true rfl) (Nat.le_of_ble_eq_true rfl) (Or.inl (fun _ _ _ q => ZN q)) (fun r9 H8 n9 q9 => ?_)
      obtain ⟨rfl, q9n, ⟨h_23, hwF, hwB, t1, hwT⟩, fr2⟩ := q9
      have q9n := q9n.symm
      subst q9n
      have hQ := hQ.fr fr2 (by decide) (by decide)
      have h_15 := (fr2 15 (by decide)).trans h_15
      have h_18 := (fr2 18 (by decide)).trans h_18
      have h_12 := (fr2 12 (by decide)).trans h_12
      have h_13 := (fr2 13 (by decide)).trans h_13
      have hL := hL.fr fr2 (by decide) (by decide)
      have hU := hU.fr fr2 (by decide) (by decide)
      have fr := fr.tr fr2 (by decide)
      have es : skf (hF z) (hB z) 2 32 0 = hS z := rfl
      rw [es] at h_23 ⊢
      refine v_lstore (i := 5) (lv' := [(5, .long (jL (hS z:Nat))), (4, .int (iI hf)), (0, .ref 15), (1, .ref 12), (2, .ref 13), (3, .int (iI (w:Nat)))]) dX0_distanceOf_146 (by decide) rfl ?_
      refine v_iload_n dX0_distanceOf_148 rfl ?_
      refine v_iconst (iI 0) dX0_distanceOf_149 rfl ?_
      refine w_ei (bz false) rfl ?_
      refine v_lload dX0_distanceOf_150 rfl ?_
      refine v_iload dX0_distanceOf_152 rfl ?_
      refine v_bipush (iI 120) dX0_distanceOf_154 rfl ?_
      refine w_isub dX0_distanceOf_156 ?_
      refine v_aload_n dX0_distanceOf_157 rfl ?_
      refine v_get fX0_39 dX0_distanceOf_158 h_15 (by decide) rfl ?_
      refine v_get fX0_126 dX0_distanceOf_161 h_23 (by decide) rfl ?_
      refine v_cS (av := [.int (iI (w:Nat)), .int (iI (bz false)), .long (jL (hS z:Nat)), .int (iI (hf - 120)), .int (iI (bz (decide (hS z = 0 ∨ hF z * (hS z) ^ 2 < hB z))))]) (st := []) zyX4_ofLong lX0_64 (p_ofLong (d := 2) (by decide) hw (by omega) (by omega)) dX0_distanceOf_164 rfl rfl (Nat.le_of_ble_eq_true rfl) (by omega) (Nat.le_of_ble_eq_true rfl) (Nat.le_of_ble_eq_true rfl) (Or.inl (fun _ _ _ q => ZN q)) (fun r9 K6 n9 q9 => ?_)
      obtain ⟨rfl, q9n, q9h⟩ := q9
      have q9n := q9n.symm
      subst q9n
      have q9h := q9h.symm
      subst q9h
      rw [show rlg w false (hS z) (hf - 120) (decide (hS z = 0 ∨ hF z * (hS z) ^ 2 < hB z)) = hyA w z from by unfold hyA; rw [if_neg c2, ehf]]
      exact v_lret dX0_distanceOf_167 trivial (Nat.le_of_ble_eq_true rfl) (Nat.le_of_ble_eq_true rfl) ⟨by rw [c1, cond_false], rfl, ⟨h_15, ⟨_, _, hQ⟩, h_18, ⟨_, hU⟩, ⟨_, hL⟩, _, _, _, h_23, hwF, hwB, _, hwT⟩, fr⟩
    · have c2 := of_decide_eq_true c2
      refine v_lconst (jL 0) dX0_distanceOf_69 rfl ?_
      exact v_lret dX0_distanceOf_70 trivial (Nat.le_of_ble_eq_true rfl) (Nat.le_of_ble_eq_true rfl) ⟨by rw [c1, cond_false]; unfold hyA; rw [if_pos c2]; rfl, rfl, ⟨h_15, ⟨_, _, hQ⟩, h_18, ⟨_, hU⟩, ⟨_, hL⟩, _, _, _, h_23, hwF, hwB, _, hwT⟩, fr⟩
  · skip
    refine v_iload_n dX0_distanceOf_37 rfl ?_
    refine v_cS (av := [.int (iI (w:Nat))]) (st := []) zyX4_notReal lX0_47 (p_notReal (d := 3) (by omega)) dX0_distanceOf_38 rfl rfl (Nat.le_of_ble_eq_true rfl) (by omega) (Nat.le_of_ble_eq_true rfl) (Nat.le_of_ble_eq_true rfl) (Or.inl (fun _ _ _ q => ZN q)) (fun r9 K1 n9 q9 => ?_)
    obtain ⟨rfl, q9n, q9h⟩ := q9
    have q9n := q9n.symm
    subst q9n
    have q9h := q9h.symm
    subst q9h
    exact v_lret dX0_distanceOf_41 trivial (Nat.le_of_ble_eq_true rfl) (Nat.le_of_ble_eq_true rfl) ⟨by rw [c1, cond_true], rfl, ⟨h_15, ⟨_, _, hQ⟩, h_18, ⟨_, hU⟩, ⟨_, hL⟩, _, _, _, h_23, hwF, hwB, _, hwT⟩, fr⟩
