/-! The reference: scaling, and whether a decimal rounds back -/
/-- M 2^E times 10^k over 10^j has one digit ahead of the dot -/
def SC (M : Nat) (E : Int) (j k : Nat) : Prop := (∀ i, i < k → M * 2 ^ E.toNat * 10 ^ i < 2 ^ (-E).toNat) ∧ 2 ^ (-E).toNat ≤ M * 2 ^ E.toNat * 10 ^ k ∧ (∀ i, i < j → 2 ^ (-E).toNat * 10 ^ (i + 1) ≤ M * 2 ^ E.toNat * 10 ^ k) ∧ M * 2 ^ E.toNat * 10 ^ k < 2 ^ (-E).toNat * 10 ^ (j + 1) ∧ j ≤ 60 ∧ k ≤ 60
theorem lt12a {x k : Nat} (h : x < 2 ^ k) (hk : k ≤ 12000) : x < 2 ^ 12000 := Nat.lt_of_lt_of_le h (Nat.pow_le_pow_right (by decide) hk)
theorem p10_61 {i : Nat} (h : i ≤ 61) : (10 : Nat) ^ i < 2 ^ 210 := Nat.lt_of_le_of_lt (Nat.pow_le_pow_right (by decide) h) (by decide)
set_option maxHeartbeats 8000000 in
set_option maxRecDepth 100000 in
theorem p_Mscale {d n M j k : Nat} {vs vm ve sg e rt th tp wr at9 sz dg pw tn fm : Int} {E : Int} {h : zH} (h_47 : h 47 = oModel vs vm ve sg e rt th tp wr at9 sz dg pw tn fm) (hN : NS h 69 70) (hD : NS h 71 72) (hLf : NS h 54 55) (hM : M < 4294967296) (hE : -120 ≤ E ∧ E ≤ 120) (hsc : SC M E j k) (hd : 2 ≤ d) :
    zM yX11_scale cX11_scale 4 none d 0 0 [.ref 47, .long (jL (M:Nat)), .int (iI E)] h n (fun r h' n' => r = none ∧ n' = n ∧ h' 47 = oModel vs vm ve sg e rt th tp wr at9 sz dg pw ((j:Int) - k) fm ∧ ND h' 69 70 (M * 2 ^ E.toNat * 10 ^ k) ∧ ND h' 71 72 (2 ^ (-E).toNat * 10 ^ j) ∧ NS h' 54 55 ∧ zFr [47, 54, 55, 69, 70, 71, 72] h h') := by
  obtain ⟨N0, eN0⟩ : ∃ N0, M * 2 ^ E.toNat = N0 := ⟨_, rfl⟩
  obtain ⟨D0, eD0⟩ : ∃ D0, 2 ^ (-E).toNat = D0 := ⟨_, rfl⟩
  obtain ⟨k1, k2, j1, j2, hj, hk⟩ := hsc
  rw [eN0, eD0] at k2 j2
  rw [eD0] at k1 j1
  rw [eN0] at k1 j1
  have hN0 : N0 < 2 ^ 160 := by
    rw [← eN0]
    have : 2 ^ E.toNat ≤ 2 ^ 120 := Nat.pow_le_pow_right (by decide) (by omega)
    have h8 : M * 2 ^ E.toNat ≤ M * 2 ^ 120 := Nat.mul_le_mul_left _ this
    omega
  have hD0 : D0 < 2 ^ 121 := by
    rw [← eD0]
    exact Nat.pow_lt_pow_right (by decide) (by omega)
  have bN : ∀ i, i ≤ 61 → N0 * 10 ^ i < 2 ^ 12000 := fun i hi => lt12a (k := 370) (by
    have := Nat.mul_lt_mul'' hN0 (p10_61 hi)
    rw [← Nat.pow_add] at this
    exact this) (by decide)
  have bD : ∀ i, i ≤ 61 → D0 * 10 ^ i < 2 ^ 12000 := fun i hi => lt12a (k := 331) (by
    have := Nat.mul_lt_mul'' hD0 (p10_61 hi)
    rw [← Nat.pow_add] at this
    exact this) (by decide)
  obtain ⟨_, _, h_69, -⟩ := id hN
  refine zM_of zyX11_scale rfl (Nat.le_of_ble_eq_true rfl) (fun X hX => ?_)
  have fr : zFr [47, 54, 55, 69, 70, 71, 72] h h := zFr.rf
  have loop2 : ∀ (m i : Nat) (H : zH), i + m = j → H 47 = oModel vs vm ve sg e rt th tp wr at9 sz dg pw ((i:Int) - k) fm → ND H 69 70 (N0 * 10 ^ k) → ND H 71 72 (D0 * 10 ^ i) → ND H 54 55 (D0 * 10 ^ (i + 1)) → zFr [47, 54, 55, 69, 70, 71, 72] h H → (zV X (fun r h' n' => r = none ∧ n' = n ∧ h' 47 = oModel vs vm ve sg e rt th tp wr at9 sz dg pw ((j:Int) - k) fm ∧ ND h' 69 70 (M * 2 ^ E.toNat * 10 ^ k) ∧ ND h' 71 72 (2 ^ (-E).toNat * 10 ^ j) ∧ NS h' 54 55 ∧ zFr [47, 54, 55, 69, 70, 71, 72] h h') cX11_scale 4 RX11 none d 0 0 105 [(0, .ref 47)] [] H n 0 0) := by
    intro m
    induction m with
    | zero =>
      intro i H hi h_47 hN hD hLf fr
      have ei : i = j := by omega
      subst ei
      have cr := cmpz_r (N0 * 10 ^ k) (D0 * 10 ^ (i + 1))
      have cl := cmpz_lt (v := N0 * 10 ^ k) (w := D0 * 10 ^ (i + 1))
      obtain ⟨_, _, h_69, -⟩ := id hN
      refine v_aload_n dX11_scale_105 rfl ?_
      refine v_get fX11_147 dX11_scale_106 h_47 (by decide) rfl ?_
      refine v_aload_n dX11_scale_109 rfl ?_
      refine v_get fX11_54 dX11_scale_110 h_47 (by decide) rfl ?_
      refine v_cV (av := [.ref 54]) (st := []) zyX9_compare lX11_75 h_69 rfl (p_ncompare (d := 1) hN hLf) dX11_scale_113 rfl rfl (Nat.le_of_ble_eq_true rfl) (by omega) (Nat.le_of_ble_eq_true rfl) (Nat.le_of_ble_eq_true rfl) (Or.inl (fun _ _ _ q => ZN q)) (fun r9 K1 n9 q9 => ?_)
      obtain ⟨rfl, q9n, q9h⟩ := q9
      have q9n := q9n.symm
      subst q9n
      have q9h := q9h.symm
      subst q9h
      refine w_if_lt 154 dX11_scale_116 (by decide) (by omega) (fun c1 => ?_) (fun c1 => ?_)
      · skip
        exact v_vret dX11_scale_154 trivial (Nat.le_of_ble_eq_true rfl) (Nat.le_of_ble_eq_true rfl) ⟨rfl, rfl, h_47, by rw [eN0]; exact hN, by rw [eD0]; exact hD, hLf.ns, fr⟩
      · exact absurd (cl.mpr j2) c1
    | succ m ih =>
      intro i H hi h_47 hN hD hLf fr
      have cr := cmpz_r (N0 * 10 ^ k) (D0 * 10 ^ (i + 1))
      have cl := cmpz_lt (v := N0 * 10 ^ k) (w := D0 * 10 ^ (i + 1))
      have hle := j1 i (by omega)
      obtain ⟨_, _, h_69, -⟩ := id hN
      refine v_aload_n dX11_scale_105 rfl ?_
      refine v_get fX11_147 dX11_scale_106 h_47 (by decide) rfl ?_
      refine v_aload_n dX11_scale_109 rfl ?_
      refine v_get fX11_54 dX11_scale_110 h_47 (by decide) rfl ?_
      refine v_cV (av := [.ref 54]) (st := []) zyX9_compare lX11_75 h_69 rfl (p_ncompare (d := 1) hN hLf) dX11_scale_113 rfl rfl (Nat.le_of_ble_eq_true rfl) (by omega) (Nat.le_of_ble_eq_true rfl) (Nat.le_of_ble_eq_true rfl) (Or.inl (fun _ _ _ q => ZN q)) (fun r9 K1 n9 q9 => ?_)
      obtain ⟨rfl, q9n, q9h⟩ := q9
      have q9n := q9n.symm
      subst q9n
      have q9h := q9h.symm
      subst q9h
      refine w_if_lt 154 dX11_scale_116 (by decide) (by omega) (fun c1 => ?_) (fun c1 => ?_)
      · exact absurd (cl.mp c1) (by omega)
      · skip
        refine v_aload_n dX11_scale_119 rfl ?_
        refine v_get fX11_150 dX11_scale_120 h_47 (by decide) rfl ?_
        refine v_aload_n dX11_scale_123 rfl ?_
        refine v_get fX11_54 dX11_scale_124 h_47 (by decide) rfl ?_
        obtain ⟨_, _, h_71, -⟩ := id hD
        refine v_cV (av := [.ref 54]) (st := []) zyX9_copy lX11_57 h_71 rfl (p_ncopy (d := 1) hD.ns hLf (by decide)) dX11_scale_127 rfl rfl (Nat.le_of_ble_eq_true rfl) (by omega) (Nat.le_of_ble_eq_true rfl) (Nat.le_of_ble_eq_true rfl) (Or.inl (fun _ _ _ q => ZN q)) (fun r9 G1 n9 q9 => ?_)
        obtain ⟨rfl, q9n, hD, fr9⟩ := q9
        have q9n := q9n.symm
        subst q9n
        have h_47 := (fr9 47 (by decide)).trans h_47
        have hN := hN.fr fr9 (by decide) (by decide)
        have hLf := hLf.fr fr9 (by decide) (by decide)
        have fr := fr.tr fr9 (by decide)
        refine v_aload_n dX11_scale_130 rfl ?_
        refine v_get fX11_54 dX11_scale_131 h_47 (by decide) rfl ?_
        refine v_ldc2_w (v := jL 10) kX11_274 dX11_scale_134 ?_
        refine v_iconst (iI 0) dX11_scale_137 rfl ?_
        obtain ⟨_, _, h_54, -⟩ := id hLf
        refine v_cV (av := [.long (jL 10), .int (iI 0)]) (st := []) zyX9_times lX11_64 h_54 rfl (p_ntimes (d := 1) (x := 10) (y := 0) hLf (by decide) (by decide) (bD _ (by omega))) dX11_scale_138 rfl rfl (Nat.le_of_ble_eq_true rfl) (by omega) (Nat.le_of_ble_eq_true rfl) (Nat.le_of_ble_eq_true rfl) (Or.inl (fun _ _ _ q => ZN q)) (fun r9 G2 n9 q9 => ?_)
        obtain ⟨rfl, q9n, -, hLf, fr8⟩ := q9
        have q9n := q9n.symm
        subst q9n
        have hLf := hLf (by decide)
        rw [Nat.add_zero, Nat.mul_assoc, ← Nat.pow_succ] at hLf
        have h_47 := (fr8 47 (by decide)).trans h_47
        have hN := hN.fr fr8 (by decide) (by decide)
        have hD := hD.fr fr8 (by decide) (by decide)
        have fr := fr.tr fr8 (by decide)
        refine v_aload_n dX11_scale_141 rfl ?_
        refine v_dup dX11_scale_142 rfl ?_
        refine v_get fX11_303 dX11_scale_143 h_47 (by decide) rfl ?_
        refine v_iconst (iI 1) dX11_scale_146 rfl ?_
        refine w_iadd dX11_scale_147 ?_
        refine w_ei (((i + 1 : Nat) : Int) - k) (by omega) ?_
        refine v_put (fs' := [.int (iI vs), .long (jL vm), .int (iI ve), .ref 48, .ref 49, .int (iI sg), .ref 50, .ref 52, .int (iI e), .int (iI rt), .ref 54, .ref 56, .ref 58, .ref 59, .ref 62, .ref 64, .int (iI th), .ref 66, .int (iI tp), .ref 67, .int (iI wr), .int (iI at9), .int (iI sz), .int (iI dg), .int (iI pw), .ref 68, .ref 69, .ref 71, .int (iI (((i + 1 : Nat) : Int) - k)), .ref 73, .int (iI fm), .ref 74, .ref 76]) fX11_303 dX11_scale_148 h_47 (by decide) (Nat.le_of_ble_eq_true rfl) rfl rfl rfl (fun H1 eH1 => ?_)
        have h_47 : H1 47 = oModel vs vm ve sg e rt th tp wr at9 sz dg pw (((i + 1 : Nat) : Int) - k) fm := zf_same eH1
        have fr := fr.put eH1 (by simp)
        refine v_goto 105 dX11_scale_151 (by decide) ?_
        have fz : zFr [47] G2 H1 := zFr.put zFr.rf eH1 (by simp)
        exact ih (i + 1) _ (by omega) h_47 (hN.fr fz (by decide) (by decide)) (hD.fr fz (by decide) (by decide)) (hLf.fr fz (by decide) (by decide)) fr
  have loop1 : ∀ (m i : Nat) (H : zH), i + m = k → H 47 = oModel vs vm ve sg e rt th tp wr at9 sz dg pw (-(i:Int)) fm → ND H 69 70 (N0 * 10 ^ i) → ND H 71 72 D0 → NS H 54 55 → zFr [47, 54, 55, 69, 70, 71, 72] h H → (zV X (fun r h' n' => r = none ∧ n' = n ∧ h' 47 = oModel vs vm ve sg e rt th tp wr at9 sz dg pw ((j:Int) - k) fm ∧ ND h' 69 70 (M * 2 ^ E.toNat * 10 ^ k) ∧ ND h' 71 72 (2 ^ (-E).toNat * 10 ^ j) ∧ NS h' 54 55 ∧ zFr [47, 54, 55, 69, 70, 71, 72] h h') cX11_scale 4 RX11 none d 0 0 45 [(0, .ref 47)] [] H n 0 0) := by
    intro m
    induction m with
    | zero =>
      intro i H hi h_47 hN hD hLf fr
      have ei : i = k := by omega
      subst ei
      have cr := cmpz_r (N0 * 10 ^ i) D0
      have cl := cmpz_lt (v := N0 * 10 ^ i) (w := D0)
      obtain ⟨_, _, h_69, -⟩ := id hN
      refine v_aload_n dX11_scale_45 rfl ?_
      refine v_get fX11_147 dX11_scale_46 h_47 (by decide) rfl ?_
      refine v_aload_n dX11_scale_49 rfl ?_
      refine v_get fX11_150 dX11_scale_50 h_47 (by decide) rfl ?_
      refine v_cV (av := [.ref 71]) (st := []) zyX9_compare lX11_75 h_69 rfl (p_ncompare (d := 1) hN hD) dX11_scale_53 rfl rfl (Nat.le_of_ble_eq_true rfl) (by omega) (Nat.le_of_ble_eq_true rfl) (Nat.le_of_ble_eq_true rfl) (Or.inl (fun _ _ _ q => ZN q)) (fun r9 K1 n9 q9 => ?_)
      obtain ⟨rfl, q9n, q9h⟩ := q9
      have q9n := q9n.symm
      subst q9n
      have q9h := q9h.symm
      subst q9h
      refine w_if_ge 83 dX11_scale_56 (by decide) (by omega) (fun c1 => ?_) (fun c1 => ?_)
      · skip
        refine v_aload_n dX11_scale_83 rfl ?_
        refine v_get fX11_54 dX11_scale_84 h_47 (by decide) rfl ?_
        refine v_aload_n dX11_scale_87 rfl ?_
        refine v_get fX11_150 dX11_scale_88 h_47 (by decide) rfl ?_
        obtain ⟨_, _, h_54, -⟩ := id hLf
        refine v_cV (av := [.ref 71]) (st := []) zyX9_copy lX11_57 h_54 rfl (p_ncopy (d := 1) hLf hD (by decide)) dX11_scale_91 rfl rfl (Nat.le_of_ble_eq_true rfl) (by omega) (Nat.le_of_ble_eq_true rfl) (Nat.le_of_ble_eq_true rfl) (Or.inl (fun _ _ _ q => ZN q)) (fun r9 G1 n9 q9 => ?_)
        obtain ⟨rfl, q9n, hLf, fr9⟩ := q9
        have q9n := q9n.symm
        subst q9n
        have h_47 := (fr9 47 (by decide)).trans h_47
        have hN := hN.fr fr9 (by decide) (by decide)
        have hD := hD.fr fr9 (by decide) (by decide)
        have fr := fr.tr fr9 (by decide)
        refine v_aload_n dX11_scale_94 rfl ?_
        refine v_get fX11_54 dX11_scale_95 h_47 (by decide) rfl ?_
        refine v_ldc2_w (v := jL 10) kX11_274 dX11_scale_98 ?_
        refine v_iconst (iI 0) dX11_scale_101 rfl ?_
        obtain ⟨_, _, h_54, -⟩ := id hLf
        refine v_cV (av := [.long (jL 10), .int (iI 0)]) (st := []) zyX9_times lX11_64 h_54 rfl (p_ntimes (d := 1) (x := 10) (y := 0) hLf (by decide) (by decide) (lt12a hD0 (by decide))) dX11_scale_102 rfl rfl (Nat.le_of_ble_eq_true rfl) (by omega) (Nat.le_of_ble_eq_true rfl) (Nat.le_of_ble_eq_true rfl) (Or.inl (fun _ _ _ q => ZN q)) (fun r9 G2 n9 q9 => ?_)
        obtain ⟨rfl, q9n, -, hLf, fr8⟩ := q9
        have q9n := q9n.symm
        subst q9n
        have hLf := hLf (by decide)
        rw [Nat.add_zero] at hLf
        have h_47 := (fr8 47 (by decide)).trans h_47
        have hN := hN.fr fr8 (by decide) (by decide)
        have hD := hD.fr fr8 (by decide) (by decide)
        have fr := fr.tr fr8 (by decide)
        exact loop2 j 0 G2 (by omega) (by rw [show ((0 : Nat) : Int) - i = -(i : Int) from by omega]; exact h_47) hN (by rw [Nat.pow_zero, Nat.mul_one]; exact hD) (by rw [Nat.zero_add, Nat.pow_one]; exact hLf) fr
      · exact absurd (cl.mp (by omega)) (by omega)
    | succ m ih =>
      intro i H hi h_47 hN hD hLf fr
      have cr := cmpz_r (N0 * 10 ^ i) D0
      have cl := cmpz_lt (v := N0 * 10 ^ i) (w := D0)
      have hlt := k1 i (by omega)
      have := cl.mpr hlt
      obtain ⟨_, _, h_69, -⟩ := id hN
      refine v_aload_n dX11_scale_45 rfl ?_
      refine v_get fX11_147 dX11_scale_46 h_47 (by decide) rfl ?_
      refine v_aload_n dX11_scale_49 rfl ?_
      refine v_get fX11_150 dX11_scale_50 h_47 (by decide) rfl ?_
      refine v_cV (av := [.ref 71]) (st := []) zyX9_compare lX11_75 h_69 rfl (p_ncompare (d := 1) hN hD) dX11_scale_53 rfl rfl (Nat.le_of_ble_eq_true rfl) (by omega) (Nat.le_of_ble_eq_true rfl) (Nat.le_of_ble_eq_true rfl) (Or.inl (fun _ _ _ q => ZN q)) (fun r9 K1 n9 q9 => ?_)
      obtain ⟨rfl, q9n, q9h⟩ := q9
      have q9n := q9n.symm
      subst q9n
      have q9h := q9h.symm
      subst q9h
      refine w_if_ge 83 dX11_scale_56 (by decide) (by omega) (fun c1 => ?_) (fun c1 => ?_)
      · exact absurd c1 (by omega)
      · skip
        refine v_aload_n dX11_scale_59 rfl ?_
        refine v_get fX11_147 dX11_scale_60 h_47 (by decide) rfl ?_
        refine v_ldc2_w (v := jL 10) kX11_274 dX11_scale_63 ?_
        refine v_iconst (iI 0) dX11_scale_66 rfl ?_
        refine v_cV (av := [.long (jL 10), .int (iI 0)]) (st := []) zyX9_times lX11_64 h_69 rfl (p_ntimes (d := 1) (x := 10) (y := 0) hN (by decide) (by decide) (bN _ (by omega))) dX11_scale_67 rfl rfl (Nat.le_of_ble_eq_true rfl) (by omega) (Nat.le_of_ble_eq_true rfl) (Nat.le_of_ble_eq_true rfl) (Or.inl (fun _ _ _ q => ZN q)) (fun r9 G2 n9 q9 => ?_)
        obtain ⟨rfl, q9n, -, hN, fr8⟩ := q9
        have q9n := q9n.symm
        subst q9n
        have hN := hN (by decide)
        rw [Nat.add_zero, Nat.mul_assoc, ← Nat.pow_succ] at hN
        have h_47 := (fr8 47 (by decide)).trans h_47
        have hD := hD.fr fr8 (by decide) (by decide)
        have hLf := hLf.fr fr8 (by decide) (by decide)
        have fr := fr.tr fr8 (by decide)
        refine v_aload_n dX11_scale_70 rfl ?_
        refine v_dup dX11_scale_71 rfl ?_
        refine v_get fX11_303 dX11_scale_72 h_47 (by decide) rfl ?_
        refine v_iconst (iI 1) dX11_scale_75 rfl ?_
        refine w_isub dX11_scale_76 ?_
        refine w_ei (-((i + 1 : Nat) : Int)) (by omega) ?_
        refine v_put (fs' := [.int (iI vs), .long (jL vm), .int (iI ve), .ref 48, .ref 49, .int (iI sg), .ref 50, .ref 52, .int (iI e), .int (iI rt), .ref 54, .ref 56, .ref 58, .ref 59, .ref 62, .ref 64, .int (iI th), .ref 66, .int (iI tp), .ref 67, .int (iI wr), .int (iI at9), .int (iI sz), .int (iI dg), .int (iI pw), .ref 68, .ref 69, .ref 71, .int (iI (-((i + 1 : Nat) : Int))), .ref 73, .int (iI fm), .ref 74, .ref 76]) fX11_303 dX11_scale_77 h_47 (by decide) (Nat.le_of_ble_eq_true rfl) rfl rfl rfl (fun H1 eH1 => ?_)
        have h_47 : H1 47 = oModel vs vm ve sg e rt th tp wr at9 sz dg pw (-((i + 1 : Nat) : Int)) fm := zf_same eH1
        have fr := fr.put eH1 (by simp)
        refine v_goto 45 dX11_scale_80 (by decide) ?_
        have fz : zFr [47] G2 H1 := zFr.put zFr.rf eH1 (by simp)
        exact ih (i + 1) _ (by omega) h_47 (hN.fr fz (by decide) (by decide)) (hD.fr fz (by decide) (by decide)) (hLf.fr fz (by decide) (by decide)) fr
  have j40 : ∀ (H : zH), H 47 = oModel vs vm ve sg e rt th tp wr at9 sz dg pw tn fm → ND H 69 70 N0 → ND H 71 72 D0 → NS H 54 55 → zFr [47, 54, 55, 69, 70, 71, 72] h H → (zV X (fun r h' n' => r = none ∧ n' = n ∧ h' 47 = oModel vs vm ve sg e rt th tp wr at9 sz dg pw ((j:Int) - k) fm ∧ ND h' 69 70 (M * 2 ^ E.toNat * 10 ^ k) ∧ ND h' 71 72 (2 ^ (-E).toNat * 10 ^ j) ∧ NS h' 54 55 ∧ zFr [47, 54, 55, 69, 70, 71, 72] h h') cX11_scale 4 RX11 none d 0 0 40 [(0, .ref 47)] [] H n 0 0) := by
    intro H h_47 hN hD hLf fr
    refine v_aload_n dX11_scale_40 rfl ?_
    refine v_iconst (iI 0) dX11_scale_41 rfl ?_
    refine v_put (fs' := [.int (iI vs), .long (jL vm), .int (iI ve), .ref 48, .ref 49, .int (iI sg), .ref 50, .ref 52, .int (iI e), .int (iI rt), .ref 54, .ref 56, .ref 58, .ref 59, .ref 62, .ref 64, .int (iI th), .ref 66, .int (iI tp), .ref 67, .int (iI wr), .int (iI at9), .int (iI sz), .int (iI dg), .int (iI pw), .ref 68, .ref 69, .ref 71, .int (iI 0), .ref 73, .int (iI fm), .ref 74, .ref 76]) fX11_303 dX11_scale_42 h_47 (by decide) (Nat.le_of_ble_eq_true rfl) rfl rfl rfl (fun H1 eH1 => ?_)
    have h_47 : H1 47 = oModel vs vm ve sg e rt th tp wr at9 sz dg pw 0 fm := zf_same eH1
    have fr := fr.put eH1 (by simp)
    have fz : zFr [47] H H1 := zFr.put zFr.rf eH1 (by simp)
    exact loop1 k 0 H1 (by omega) h_47 (by rw [Nat.pow_zero, Nat.mul_one]; exact hN.fr fz (by decide) (by decide)) (hD.fr fz (by decide) (by decide)) (hLf.fr fz (by decide) (by decide)) fr
  refine v_aload_n dX11_scale_0 rfl ?_
  refine v_get fX11_147 dX11_scale_1 h_47 (by decide) rfl ?_
  refine v_lload_n dX11_scale_4 rfl ?_
  refine v_cV (av := [.long (jL (M:Nat))]) (st := []) zyX9_set lX11_39 h_69 rfl (p_nset (d := 1) (x := M) hN (by omega) (by omega) (by omega)) dX11_scale_5 rfl rfl (Nat.le_of_ble_eq_true rfl) (by omega) (Nat.le_of_ble_eq_true rfl) (Nat.le_of_ble_eq_true rfl) (Or.inl (fun _ _ _ q => ZN q)) (fun r9 G1 n9 q9 => ?_)
  obtain ⟨rfl, q9n, hN, fr9⟩ := q9
  have q9n := q9n.symm
  subst q9n
  have h_47 := (fr9 47 (by decide)).trans h_47
  have hD := hD.fr fr9 (by decide) (by decide)
  have hLf := hLf.fr fr9 (by decide) (by decide)
  have fr := fr.tr fr9 (by decide)
  refine v_aload_n dX11_scale_8 rfl ?_
  refine v_get fX11_150 dX11_scale_9 h_47 (by decide) rfl ?_
  refine v_lconst (jL 1) dX11_scale_12 rfl ?_
  obtain ⟨_, _, h_71, -⟩ := id hD
  refine v_cV (av := [.long (jL 1)]) (st := []) zyX9_set lX11_39 h_71 rfl (p_nset (d := 1) (x := 1) hD (by decide) (by decide) (by decide)) dX11_scale_13 rfl rfl (Nat.le_of_ble_eq_true rfl) (by omega) (Nat.le_of_ble_eq_true rfl) (Nat.le_of_ble_eq_true rfl) (Or.inl (fun _ _ _ q => ZN q)) (fun r9 G2 n9 q9 => ?_)
  obtain ⟨rfl, q9n, hD, fr8⟩ := q9
  have q9n := q9n.symm
  subst q9n
  have h_47 := (fr8 47 (by decide)).trans h_47
  have hN := hN.fr fr8 (by decide) (by decide)
  have hLf := hLf.fr fr8 (by decide) (by decide)
  have fr := fr.tr fr8 (by decide)
  refine v_iload_n dX11_scale_16 rfl ?_
  refine w_if_le 31 dX11_scale_17 (by decide) (by omega) (fun c1 => ?_) (fun c1 => ?_)
  · obtain ⟨g, eg⟩ : ∃ g : Nat, -E = g := ⟨(-E).toNat, by omega⟩
    have e1 : N0 = M := by rw [← eN0, show E.toNat = 0 from by omega, Nat.pow_zero, Nat.mul_one]
    have e2 : 1 * 2 ^ g = D0 := by rw [← eD0, show (-E).toNat = g from by omega, Nat.one_mul]
    refine v_aload_n dX11_scale_31 rfl ?_
    refine v_get fX11_150 dX11_scale_32 h_47 (by decide) rfl ?_
    refine v_iload_n dX11_scale_35 rfl ?_
    refine w_ineg dX11_scale_36 ?_
    refine w_ei (g:Nat) eg ?_
    obtain ⟨_, _, h_71, -⟩ := id hD
    refine v_cV (av := [.int (iI (g:Nat))]) (st := []) zyX9_shift lX11_71 h_71 rfl (p_nshift (d := 1) (t := g) hD (by decide) (by omega) (by rw [e2]; exact lt12a hD0 (by decide))) dX11_scale_37 rfl rfl (Nat.le_of_ble_eq_true rfl) (by omega) (Nat.le_of_ble_eq_true rfl) (Nat.le_of_ble_eq_true rfl) (Or.inl (fun _ _ _ q => ZN q)) (fun r9 G3 n9 q9 => ?_)
    obtain ⟨rfl, q9n, hD, fr7⟩ := q9
    have q9n := q9n.symm
    subst q9n
    rw [e2] at hD
    rw [← e1] at hN
    have h_47 := (fr7 47 (by decide)).trans h_47
    have hN := hN.fr fr7 (by decide) (by decide)
    have hLf := hLf.fr fr7 (by decide) (by decide)
    have fr := fr.tr fr7 (by decide)
    refine w_sub (lv2 := [(0, .ref 47)]) [0] rfl ?_
    exact j40 G3 h_47 hN hD hLf fr
  · obtain ⟨g, eg⟩ : ∃ g : Nat, E = g := ⟨E.toNat, by omega⟩
    have e1 : M * 2 ^ g = N0 := by rw [← eN0, show E.toNat = g from by omega]
    have e2 : 1 = D0 := by rw [← eD0, show (-E).toNat = 0 from by omega, Nat.pow_zero]
    refine v_aload_n dX11_scale_20 rfl ?_
    refine v_get fX11_147 dX11_scale_21 h_47 (by decide) rfl ?_
    refine v_iload_n dX11_scale_24 rfl ?_
    refine w_ei (g:Nat) eg ?_
    obtain ⟨_, _, h_69, -⟩ := id hN
    refine v_cV (av := [.int (iI (g:Nat))]) (st := []) zyX9_shift lX11_71 h_69 rfl (p_nshift (d := 1) (t := g) hN (by decide) (by omega) (by rw [e1]; exact lt12a hN0 (by decide))) dX11_scale_25 rfl rfl (Nat.le_of_ble_eq_true rfl) (by omega) (Nat.le_of_ble_eq_true rfl) (Nat.le_of_ble_eq_true rfl) (Or.inl (fun _ _ _ q => ZN q)) (fun r9 G3 n9 q9 => ?_)
    obtain ⟨rfl, q9n, hN, fr7⟩ := q9
    have q9n := q9n.symm
    subst q9n
    rw [e1] at hN
    rw [e2] at hD
    have h_47 := (fr7 47 (by decide)).trans h_47
    have hD := hD.fr fr7 (by decide) (by decide)
    have hLf := hLf.fr fr7 (by decide) (by decide)
    have fr := fr.tr fr7 (by decide)
    refine v_goto 40 dX11_scale_28 (by decide) ?_
    refine w_sub (lv2 := [(0, .ref 47)]) [0] rfl ?_
    exact j40 G3 h_47 hN hD hLf fr
/-- whether D 10^l rounds to the size u of width w -/
noncomputable def rR (w u D : Nat) (l9 : Int) : Bool := decide (rdS (CP (D * 10 ^ l9.toNat) (10 ^ (-l9).toNat) 0 1) w = u)
theorem rdS_lt {C : Nat → Nat → Int} {n : Nat} (hn : 3 ≤ n ∧ n ≤ 32) : rdS C n < 9223372036854775808 := by
  have h1 : 2 ^ (n - 1) ≤ 2 ^ 31 := Nat.pow_le_pow_right (by decide) (by omega)
  have hb : ∀ (f : Nat → Int) (m lo hi : Nat), lo ≤ hi → bsr f m lo hi ≤ hi := by
    intro f m
    induction m with
    | zero => intro lo hi h; unfold bsr; omega
    | succ m ih =>
      intro lo hi h
      unfold bsr
      split
      · exact h
      · split
        · exact ih _ _ (by omega)
        · exact Nat.le_trans (ih _ _ (by omega)) (by omega)
  have h2 := p_pos (n - 1)
  have h3 := hb (fun u => C u n) (2 ^ (n - 1)) 1 (2 ^ (n - 1) - 1)
  have h4 : (2 : Nat) ^ 2 ≤ 2 ^ (n - 1) := Nat.pow_le_pow_right (by decide) (by omega)
  have h5 := h3 (by omega)
  unfold rdS
  split
  · omega
  · split
    · omega
    · split <;> omega
set_option maxHeartbeats 8000000 in
set_option maxRecDepth 100000 in
theorem p_isRounded {d n a b D u w : Nat} {vs vm ve sg e rt th tp wr at9 sz dg pw tn fm : Int} {l9 : Int} {h : zH} (h_47 : h 47 = oModel vs vm ve sg e rt th tp wr at9 sz dg pw tn fm) (nA : NS h 50 51) (nB : NS h 52 53) (nL : NS h 54 55) (nR : NS h 56 57) (hDD : ND h a b D) (hne : (a ≠ 47 ∧ a ≠ 50 ∧ a ≠ 51 ∧ a ≠ 52 ∧ a ≠ 53) ∧ (b ≠ 47 ∧ b ≠ 50 ∧ b ≠ 51 ∧ b ≠ 52 ∧ b ≠ 53)) (hD0 : D ≠ 0) (hD : D < 10 ^ 60) (hl : -200 ≤ l9 ∧ l9 ≤ 200) (hu : u < 2147483648) (hw : 3 ≤ w ∧ w ≤ 32) (hd : 5 ≤ d) :
    zM yX11_isRounded cX11_isRounded 8 (some .boolean) d 0 0 [.ref 47, .ref a, .int (iI l9), .long (jL (u:Nat)), .int (iI (w:Nat))] h n (fun r h' n' => r = some (.int (iI (bz (rR w u D l9)))) ∧ n' = n ∧ (∃ vs vm ve, h' 47 = oModel vs vm ve 1 0 1 th tp wr at9 sz dg pw tn fm) ∧ NS h' 50 51 ∧ NS h' 52 53 ∧ NS h' 54 55 ∧ NS h' 56 57 ∧ zFr [47, 50, 51, 52, 53, 54, 55, 56, 57] h h') := by
  refine zM_of zyX11_isRounded rfl (Nat.le_of_ble_eq_true rfl) (fun X hX => ?_)
  have fr : zFr [47, 50, 51, 52, 53, 54, 55, 56, 57] h h := zFr.rf
  refine v_aload_n dX11_isRounded_0 rfl ?_
  refine v_iconst (iI 1) dX11_isRounded_1 rfl ?_
  refine v_cV (av := [.int (iI 1)]) (st := []) zyX11_begin lX11_119 h_47 rfl (p_begin (d := 4) h_47 nA nB (by decide)) dX11_isRounded_2 rfl rfl (Nat.le_of_ble_eq_true rfl) (by omega) (Nat.le_of_ble_eq_true rfl) (Nat.le_of_ble_eq_true rfl) (Or.inl (fun _ _ _ q => ZN q)) (fun r9 G1 n9 q9 => ?_)
  obtain ⟨rfl, q9n, h_47, hA, hB, fr9⟩ := q9
  have q9n := q9n.symm
  subst q9n
  have nL := nL.fr fr9 (by decide) (by decide)
  have nR := nR.fr fr9 (by decide) (by decide)
  have hDD := hDD.fr fr9 (by simp [hne]) (by simp [hne])
  have fr := fr.tr fr9 (by decide)
  refine v_aload_n dX11_isRounded_5 rfl ?_
  refine v_get fX11_35 dX11_isRounded_6 h_47 (by decide) rfl ?_
  refine v_aload_n dX11_isRounded_9 rfl ?_
  obtain ⟨_, _, h_50, -⟩ := id hA
  refine v_cV (av := [.ref a]) (st := []) zyX9_copy lX11_57 h_50 rfl (p_ncopy (d := 4) hA.ns hDD ⟨hne.1.2.1, hne.1.2.2.1, hne.2.2.1, hne.2.2.2.1⟩) dX11_isRounded_10 rfl rfl (Nat.le_of_ble_eq_true rfl) (by omega) (Nat.le_of_ble_eq_true rfl) (Nat.le_of_ble_eq_true rfl) (Or.inl (fun _ _ _ q => ZN q)) (fun r9 G2 n9 q9 => ?_)
  obtain ⟨rfl, q9n, hA, fr8⟩ := q9
  have q9n := q9n.symm
  subst q9n
  have h_47 := (fr8 47 (by decide)).trans h_47
  have hB := hB.fr fr8 (by decide) (by decide)
  have nL := nL.fr fr8 (by decide) (by decide)
  have nR := nR.fr fr8 (by decide) (by decide)
  have fr := fr.tr fr8 (by decide)
  have loop : ∀ (a9 b9 : Nat), (a9 = 50 ∧ b9 = 51 ∧ 0 ≤ l9) ∨ (a9 = 52 ∧ b9 = 53 ∧ l9 < 0) → ∀ (j k : Nat) (H : zH), k + j = l9.natAbs → H 47 = oModel vs vm ve 1 0 1 th tp wr at9 sz dg pw tn fm → ND H 50 51 (if 0 ≤ l9 then D * 10 ^ k else D) → ND H 52 53 (if 0 ≤ l9 then 1 else 10 ^ k) → NS H 54 55 → NS H 56 57 → zFr [47, 50, 51, 52, 53, 54, 55, 56, 57] h H → (zV X (fun r h' n' => r = some (.int (iI (bz (rR w u D l9)))) ∧ n' = n ∧ (∃ vs vm ve, h' 47 = oModel vs vm ve 1 0 1 th tp wr at9 sz dg pw tn fm) ∧ NS h' 50 51 ∧ NS h' 52 53 ∧ NS h' 54 55 ∧ NS h' 56 57 ∧ zFr [47, 50, 51, 52, 53, 54, 55, 56, 57] h h') cX11_isRounded 8 RX11 (some .boolean) d 0 0 33 [(0, .ref 47), (2, .int (iI l9)), (3, .long (jL (u:Nat))), (5, .int (iI (w:Nat))), (6, .ref a9), (7, .int (iI (k:Nat)))] [] H n 0 0) := by
    intro a9 b9 hab j
    induction j with
    | zero =>
      intro k H hj h_47 hA hB nL nR fr
      have hk9 : k = l9.natAbs := by omega
      refine v_iload dX11_isRounded_33 rfl ?_
      refine v_iload_n dX11_isRounded_35 rfl ?_
      refine v_cS (av := [.int (iI l9)]) (st := [.int (iI (k:Nat))]) zyJ9_abs_0f7a4 lX11_240 (p_abs (d := 4) (a := l9) (by omega)) dX11_isRounded_36 rfl rfl (Nat.le_of_ble_eq_true rfl) (by omega) (Nat.le_of_ble_eq_true rfl) (Nat.le_of_ble_eq_true rfl) (Or.inl (fun _ _ _ q => ZN q)) (fun r9 K1 n9 q9 => ?_)
      obtain ⟨rfl, q9n, q9h⟩ := q9
      have q9n := q9n.symm
      subst q9n
      have q9h := q9h.symm
      subst q9h
      refine w_icmp_ge 57 dX11_isRounded_39 (by decide) (by omega) (by omega) (fun b1 => ?_) (fun b1 => ?_)
      · skip
        refine v_aload_n dX11_isRounded_57 rfl ?_
        refine v_iload dX11_isRounded_58 rfl ?_
        have eA : (if 0 ≤ l9 then D * 10 ^ k else D) = D * 10 ^ l9.toNat := by
          by_cases z : 0 ≤ l9
          · rw [if_pos z, show k = l9.toNat from by omega]
          · rw [if_neg z, show l9.toNat = 0 from by omega, Nat.pow_zero, Nat.mul_one]
        have eB : (if 0 ≤ l9 then 1 else 10 ^ k) = 10 ^ (-l9).toNat := by
          by_cases z : 0 ≤ l9
          · rw [if_pos z, show (-l9).toNat = 0 from by omega, Nat.pow_zero]
          · rw [if_neg z, show k = (-l9).toNat from by omega]
        rw [eA] at hA
        rw [eB] at hB
        have q1 : nb (D * 10 ^ l9.toNat) ≤ 4600 := nb10 (by omega) hD
        have q2 : nb (10 ^ (-l9).toNat) ≤ 4400 := p10_b (by omega)
        have q3 : (10 : Nat) ^ (-l9).toNat ≠ 0 := by have := Nat.pow_pos (n := (-l9).toNat) (show 0 < 10 by decide); omega
        have q4 : D * 10 ^ l9.toNat ≠ 0 := by
          have := Nat.mul_pos (Nat.pos_of_ne_zero hD0) (Nat.pow_pos (n := l9.toNat) (show 0 < 10 by decide))
          omega
        have h_47 : H 47 = oModel vs vm ve 1 0 (1:Nat) th tp wr at9 sz dg pw tn fm := h_47
        refine v_cV (av := [.int (iI (w:Nat))]) (st := []) zyX11_roundedSize lX11_82 h_47 rfl (p_roundedSize (d := 4) (rt := 1) h_47 hA hB nL nR q4 (by omega) q3 (by omega) (by decide) (by decide) hw (by decide)) dX11_isRounded_60 rfl rfl (Nat.le_of_ble_eq_true rfl) (by omega) (Nat.le_of_ble_eq_true rfl) (Nat.le_of_ble_eq_true rfl) (Or.inl (fun _ _ _ q => ZN q)) (fun r9 G6 n9 q9 => ?_)
        obtain ⟨rfl, q9n, ⟨v7, v8, v9, h_47⟩, nL, nR, fr4⟩ := q9
        have q9n := q9n.symm
        subst q9n
        have hA := hA.ns.fr fr4 (by decide) (by decide)
        have hB := hB.ns.fr fr4 (by decide) (by decide)
        have fr := fr.tr fr4 (by decide)
        have hlt := rdS_lt (C := CP (D * 10 ^ l9.toNat) (10 ^ (-l9).toNat) 0 1) hw
        obtain ⟨Z, eZ⟩ : ∃ Z, rdS (CP (D * 10 ^ l9.toNat) (10 ^ (-l9).toNat) 0 1) w = Z := ⟨_, rfl⟩
        rw [eZ] at hlt
        refine w_el (Z:Nat) (by rw [eZ]) ?_
        have eR : rR w u D l9 = decide (Z = u) := by unfold rR; rw [eZ]
        refine v_lload_n dX11_isRounded_63 rfl ?_
        refine w_lcmp_ne 72 dX11_isRounded_64 dX11_isRounded_65 (by decide) (by omega) (by omega) (fun b2 => ?_) (fun b2 => ?_)
        · skip
          refine v_iconst (iI 0) dX11_isRounded_72 rfl ?_
          refine w_ei (bz false) rfl ?_
          exact v_iret dX11_isRounded_73 bz_ret (Nat.le_of_ble_eq_true rfl) (Nat.le_of_ble_eq_true rfl) ⟨by rw [eR, decide_eq_false (by omega)], rfl, ⟨v7, v8, v9, h_47⟩, hA, hB, nL, nR, fr⟩
        · skip
          refine v_iconst (iI 1) dX11_isRounded_68 rfl ?_
          refine v_goto 73 dX11_isRounded_69 (by decide) ?_
          refine w_ei (bz true) rfl ?_
          exact v_iret dX11_isRounded_73 bz_ret (Nat.le_of_ble_eq_true rfl) (Nat.le_of_ble_eq_true rfl) ⟨by rw [eR, decide_eq_true (by omega)], rfl, ⟨v7, v8, v9, h_47⟩, hA, hB, nL, nR, fr⟩
      · exact absurd b1 (by omega)
    | succ j ih =>
      intro k H hj h_47 hA hB nL nR fr
      have e1 : (k : Int) + 1 = ((k + 1 : Nat) : Int) := by omega
      rcases hab with ⟨ha, hb, hz⟩ | ⟨ha, hb, hz⟩
      · subst ha
        rw [if_pos hz] at hA
        rw [if_pos hz] at hB
        have q1 := nb10 (k := k) (show k ≤ 1100 by omega) hD
        obtain ⟨_, _, h_50, -⟩ := id hA
        refine v_iload dX11_isRounded_33 rfl ?_
        refine v_iload_n dX11_isRounded_35 rfl ?_
        refine v_cS (av := [.int (iI l9)]) (st := [.int (iI (k:Nat))]) zyJ9_abs_0f7a4 lX11_240 (p_abs (d := 4) (a := l9) (by omega)) dX11_isRounded_36 rfl rfl (Nat.le_of_ble_eq_true rfl) (by omega) (Nat.le_of_ble_eq_true rfl) (Nat.le_of_ble_eq_true rfl) (Or.inl (fun _ _ _ q => ZN q)) (fun r9 K1 n9 q9 => ?_)
        obtain ⟨rfl, q9n, q9h⟩ := q9
        have q9n := q9n.symm
        subst q9n
        have q9h := q9h.symm
        subst q9h
        refine w_icmp_ge 57 dX11_isRounded_39 (by decide) (by omega) (by omega) (fun b1 => ?_) (fun b1 => ?_)
        · exact absurd b1 (by omega)
        · skip
          refine v_aload dX11_isRounded_42 rfl ?_
          refine v_ldc2_w (v := jL 10) kX11_274 dX11_isRounded_44 ?_
          refine v_iconst (iI 0) dX11_isRounded_47 rfl ?_
          refine v_cV (av := [.long (jL 10), .int (iI 0)]) (st := []) zyX9_times lX11_64 h_50 rfl (p_ntimes (d := 4) (x := 10) (y := 0) hA (by decide) (by decide) (lt12 (by omega))) dX11_isRounded_48 rfl rfl (Nat.le_of_ble_eq_true rfl) (by omega) (Nat.le_of_ble_eq_true rfl) (Nat.le_of_ble_eq_true rfl) (Or.inl (fun _ _ _ q => ZN q)) (fun r9 G4 n9 q9 => ?_)
          obtain ⟨rfl, q9n, -, hA, fr7⟩ := q9
          have q9n := q9n.symm
          subst q9n
          have hA := hA (by decide)
          rw [Nat.add_zero, Nat.mul_assoc, ← Nat.pow_succ] at hA
          have h_47 := (fr7 47 (by decide)).trans h_47
          have hB := hB.fr fr7 (by decide) (by decide)
          have nL := nL.fr fr7 (by decide) (by decide)
          have nR := nR.fr fr7 (by decide) (by decide)
          have fr := fr.tr fr7 (by decide)
          refine w_iinc (lv' := [(7, .int (iI ((k:Nat) + 1))), (0, .ref 47), (2, .int (iI l9)), (3, .long (jL (u:Nat))), (5, .int (iI (w:Nat))), (6, .ref 50)]) dX11_isRounded_51 rfl (by decide) rfl ?_
          refine w_sub (lv2 := [(0, .ref 47), (2, .int (iI l9)), (3, .long (jL (u:Nat))), (5, .int (iI (w:Nat))), (6, .ref 50), (7, .int (iI ((k:Nat) + 1)))]) [1, 2, 3, 4, 5, 0] rfl ?_
          refine v_goto 33 dX11_isRounded_54 (by decide) ?_
          rw [e1]
          exact ih (k + 1) G4 (by omega) h_47 (by rw [if_pos hz]; exact hA) (by rw [if_pos hz]; exact hB) nL nR fr
      · subst ha
        rw [if_neg (by omega)] at hA
        rw [if_neg (by omega)] at hB
        have q1 := p10_b (k := k) (show k ≤ 1100 by omega)
        obtain ⟨_, _, h_52, -⟩ := id hB
        refine v_iload dX11_isRounded_33 rfl ?_
        refine v_iload_n dX11_isRounded_35 rfl ?_
        refine v_cS (av := [.int (iI l9)]) (st := [.int (iI (k:Nat))]) zyJ9_abs_0f7a4 lX11_240 (p_abs (d := 4) (a := l9) (by omega)) dX11_isRounded_36 rfl rfl (Nat.le_of_ble_eq_true rfl) (by omega) (Nat.le_of_ble_eq_true rfl) (Nat.le_of_ble_eq_true rfl) (Or.inl (fun _ _ _ q => ZN q)) (fun r9 K1 n9 q9 => ?_)
        obtain ⟨rfl, q9n, q9h⟩ := q9
        have q9n := q9n.symm
        subst q9n
        have q9h := q9h.symm
        subst q9h
        refine w_icmp_ge 57 dX11_isRounded_39 (by decide) (by omega) (by omega) (fun b1 => ?_) (fun b1 => ?_)
        · exact absurd b1 (by omega)
        · skip
          refine v_aload dX11_isRounded_42 rfl ?_
          refine v_ldc2_w (v := jL 10) kX11_274 dX11_isRounded_44 ?_
          refine v_iconst (iI 0) dX11_isRounded_47 rfl ?_
          refine v_cV (av := [.long (jL 10), .int (iI 0)]) (st := []) zyX9_times lX11_64 h_52 rfl (p_ntimes (d := 4) (x := 10) (y := 0) hB (by decide) (by decide) (lt12 (by omega))) dX11_isRounded_48 rfl rfl (Nat.le_of_ble_eq_true rfl) (by omega) (Nat.le_of_ble_eq_true rfl) (Nat.le_of_ble_eq_true rfl) (Or.inl (fun _ _ _ q => ZN q)) (fun r9 G4 n9 q9 => ?_)
          obtain ⟨rfl, q9n, -, hB, fr7⟩ := q9
          have q9n := q9n.symm
          subst q9n
          have hB := hB (by decide)
          rw [Nat.add_zero, ← Nat.pow_succ] at hB
          have h_47 := (fr7 47 (by decide)).trans h_47
          have hA := hA.fr fr7 (by decide) (by decide)
          have nL := nL.fr fr7 (by decide) (by decide)
          have nR := nR.fr fr7 (by decide) (by decide)
          have fr := fr.tr fr7 (by decide)
          refine w_iinc (lv' := [(7, .int (iI ((k:Nat) + 1))), (0, .ref 47), (2, .int (iI l9)), (3, .long (jL (u:Nat))), (5, .int (iI (w:Nat))), (6, .ref 52)]) dX11_isRounded_51 rfl (by decide) rfl ?_
          refine w_sub (lv2 := [(0, .ref 47), (2, .int (iI l9)), (3, .long (jL (u:Nat))), (5, .int (iI (w:Nat))), (6, .ref 52), (7, .int (iI ((k:Nat) + 1)))]) [1, 2, 3, 4, 5, 0] rfl ?_
          refine v_goto 33 dX11_isRounded_54 (by decide) ?_
          rw [e1]
          exact ih (k + 1) G4 (by omega) h_47 (by rw [if_neg (by omega)]; exact hA) (by rw [if_neg (by omega)]; exact hB) nL nR fr
  have hA0 : ND G2 50 51 (if 0 ≤ l9 then D * 10 ^ 0 else D) := by rw [Nat.pow_zero, Nat.mul_one]; split <;> exact hA
  have hB0 : ND G2 52 53 (if 0 ≤ l9 then 1 else 10 ^ 0) := by rw [Nat.pow_zero]; split <;> exact hB
  refine v_iload_n dX11_isRounded_13 rfl ?_
  refine w_if_ge 24 dX11_isRounded_14 (by decide) (by omega) (fun b1 => ?_) (fun b1 => ?_)
  · skip
    refine v_aload_n dX11_isRounded_24 rfl ?_
    refine v_get fX11_35 dX11_isRounded_25 h_47 (by decide) rfl ?_
    refine v_astore (i := 6) (lv' := [(6, .ref 50), (0, .ref 47), (1, .ref a), (2, .int (iI l9)), (3, .long (jL (u:Nat))), (5, .int (iI (w:Nat)))]) dX11_isRounded_28 (by decide) rfl ?_
    refine v_iconst (iI 0) dX11_isRounded_30 rfl ?_
    refine v_istore (i := 7) (lv' := [(7, .int (iI 0)), (6, .ref 50), (0, .ref 47), (1, .ref a), (2, .int (iI l9)), (3, .long (jL (u:Nat))), (5, .int (iI (w:Nat)))]) dX11_isRounded_31 (by decide) rfl ?_
    refine w_sub (lv2 := [(0, .ref 47), (2, .int (iI l9)), (3, .long (jL (u:Nat))), (5, .int (iI (w:Nat))), (6, .ref 50), (7, .int (iI 0))]) [2, 4, 5, 6, 1, 0] rfl ?_
    exact loop 50 51 (Or.inl ⟨rfl, rfl, b1⟩) l9.natAbs 0 G2 (by omega) h_47 hA0 hB0 nL nR fr
  · skip
    refine v_aload_n dX11_isRounded_17 rfl ?_
    refine v_get fX11_45 dX11_isRounded_18 h_47 (by decide) rfl ?_
    refine v_goto 28 dX11_isRounded_21 (by decide) ?_
    refine v_astore (i := 6) (lv' := [(6, .ref 52), (0, .ref 47), (1, .ref a), (2, .int (iI l9)), (3, .long (jL (u:Nat))), (5, .int (iI (w:Nat)))]) dX11_isRounded_28 (by decide) rfl ?_
    refine v_iconst (iI 0) dX11_isRounded_30 rfl ?_
    refine v_istore (i := 7) (lv' := [(7, .int (iI 0)), (6, .ref 52), (0, .ref 47), (1, .ref a), (2, .int (iI l9)), (3, .long (jL (u:Nat))), (5, .int (iI (w:Nat)))]) dX11_isRounded_31 (by decide) rfl ?_
    refine w_sub (lv2 := [(0, .ref 47), (2, .int (iI l9)), (3, .long (jL (u:Nat))), (5, .int (iI (w:Nat))), (6, .ref 52), (7, .int (iI 0))]) [2, 4, 5, 6, 1, 0] rfl ?_
    exact loop 52 53 (Or.inr ⟨rfl, rfl, by omega⟩) l9.natAbs 0 G2 (by omega) h_47 hA0 hB0 nL nR fr
