/-! The page: the shortest decimal -/
set_option maxHeartbeats 4000000 in
set_option maxRecDepth 100000 in
theorem p_scaleToOneDigit {d n R U B A G0 j k : Nat} {ob oa ev : Bool} {tens cnt : Int} {h : zH} (h_34 : h 34 = oPage 35 36 37 39 41 43 45 ob oa ev tens cnt) (hR : WD h 37 38 R) (hU : WD h 39 40 U) (hB : WD h 41 42 B) (hA : WD h 43 44 A) (hG : WD h 45 46 G0) (hd : 3 ≤ d)
    (hR1 : R < 2 ^ 300) (hU1 : U < 2 ^ 300) (hB1 : B < 2 ^ 300) (hA1 : A < 2 ^ 300) (hj : j < 60) (hk : k < 60) (hj1 : ∀ i, i < j → U * 10 ^ (i + 1) ≤ R) (hj2 : R < U * 10 ^ (j + 1)) (hk1 : ∀ i, i < k → R * 10 ^ i < U * 10 ^ j) (hk2 : U * 10 ^ j ≤ R * 10 ^ k) :
    zM yX1_scaleToOneDigit cX1_scaleToOneDigit 2 none d 0 0 [.ref 34] h n (fun r h' n' => r = none ∧ n' = n ∧ h' 34 = oPage 35 36 37 39 41 43 45 ob oa ev ((j : Int) - k) cnt ∧ WD h' 37 38 (R * 10 ^ k) ∧ WD h' 39 40 (U * 10 ^ j) ∧ WD h' 41 42 (B * 10 ^ k) ∧ WD h' 43 44 (A * 10 ^ k) ∧ (∃ v, WD h' 45 46 v) ∧ zFr PGS h h') := by
  have p60 : ∀ i, i ≤ 61 → (10 : Nat) ^ i ≤ 10 ^ 61 := fun i z => Nat.pow_le_pow_right (by decide) z
  have q61 : (10 : Nat) ^ 61 < 2 ^ 203 := by decide
  have big : ∀ (v i : Nat), v < 2 ^ 300 → i ≤ 61 → v * 10 ^ i < 2 ^ 512 := fun v i z1 z2 => by
    have := Nat.mul_lt_mul'' z1 (Nat.lt_of_le_of_lt (p60 i z2) q61)
    exact Nat.lt_trans this (by decide)
  have st10 : ∀ (v i : Nat), v * 10 ^ i * 10 = v * 10 ^ (i + 1) := fun v i => by rw [Nat.mul_assoc, ← Nat.pow_succ]
  refine zM_of zyX1_scaleToOneDigit rfl (Nat.le_of_ble_eq_true rfl) (fun X hX => ?_)
  have fr : zFr PGS h h := zFr.rf
  have low : ∀ (m i : Nat) (y : Int) (H : zH), i + m = k → y = i → H 34 = oPage 35 36 37 39 41 43 45 ob oa ev ((j : Int) - i) cnt → WD H 37 38 (R * 10 ^ i) → WD H 39 40 (U * 10 ^ j) → WD H 41 42 (B * 10 ^ i) → WD H 43 44 (A * 10 ^ i) → (∃ v, WD H 45 46 v) → zFr PGS h H → (zV X (fun r h' n' => r = none ∧ n' = n ∧ h' 34 = oPage 35 36 37 39 41 43 45 ob oa ev ((j : Int) - k) cnt ∧ WD h' 37 38 (R * 10 ^ k) ∧ WD h' 39 40 (U * 10 ^ j) ∧ WD h' 41 42 (B * 10 ^ k) ∧ WD h' 43 44 (A * 10 ^ k) ∧ (∃ v, WD h' 45 46 v) ∧ zFr PGS h h') cX1_scaleToOneDigit 2 RX1 none d 0 0 89 [(0, .ref 34), (1, .int (iI y))] [] H n 0 0) := by
    intro m
    induction m with
    | zero =>
      intro i y H hi ey h_34 hR hU hB hA hG fr
      have ei : i = k := by omega
      subst ei
      refine v_iload_n dX1_scaleToOneDigit_89 rfl ?_
      refine v_bipush (iI 60) dX1_scaleToOneDigit_90 rfl ?_
      refine w_icmp_ge 129 dX1_scaleToOneDigit_92 (by decide) (by omega) (by decide) (fun c1 => ?_) (fun c1 => ?_)
      · exact absurd c1 (by omega)
      · skip
        refine v_aload_n dX1_scaleToOneDigit_95 rfl ?_
        refine v_get fX1_23 dX1_scaleToOneDigit_96 h_34 (by decide) rfl ?_
        refine v_aload_n dX1_scaleToOneDigit_99 rfl ?_
        refine v_get fX1_27 dX1_scaleToOneDigit_100 h_34 (by decide) rfl ?_
        obtain ⟨u937, f937, h_37, -⟩ := id hR
        have hcr := cmpz_r (R * 10 ^ i) (U * 10 ^ j)
        refine v_cV (av := [.ref 39]) (st := []) zyX7_against lX1_145 h_37 rfl (p_against (d := 2) hR hU) dX1_scaleToOneDigit_103 rfl rfl (Nat.le_of_ble_eq_true rfl) (by omega) (Nat.le_of_ble_eq_true rfl) (Nat.le_of_ble_eq_true rfl) (Or.inl (fun _ _ _ q => ZN q)) (fun r9 K1 n9 q9 => ?_)
        obtain ⟨rfl, q9n, q9h⟩ := q9
        have q9n := q9n.symm
        subst q9n
        have q9h := q9h.symm
        subst q9h
        refine w_if_ge 129 dX1_scaleToOneDigit_106 (by decide) (by omega) (fun c2 => ?_) (fun c2 => ?_)
        · skip
          exact v_vret dX1_scaleToOneDigit_129 trivial (Nat.le_of_ble_eq_true rfl) (Nat.le_of_ble_eq_true rfl) ⟨rfl, rfl, h_34, hR, hU, hB, hA, hG, fr⟩
        · exact absurd (cmpz_lt.mp (show cmpz (R * 10 ^ i) (U * 10 ^ j) < 0 by omega)) (by omega)
    | succ m ih =>
      intro i y H hi ey h_34 hR hU hB hA hG fr
      obtain ⟨gv, hG⟩ := hG
      refine v_iload_n dX1_scaleToOneDigit_89 rfl ?_
      refine v_bipush (iI 60) dX1_scaleToOneDigit_90 rfl ?_
      refine w_icmp_ge 129 dX1_scaleToOneDigit_92 (by decide) (by omega) (by decide) (fun c1 => ?_) (fun c1 => ?_)
      · exact absurd c1 (by omega)
      · skip
        refine v_aload_n dX1_scaleToOneDigit_95 rfl ?_
        refine v_get fX1_23 dX1_scaleToOneDigit_96 h_34 (by decide) rfl ?_
        refine v_aload_n dX1_scaleToOneDigit_99 rfl ?_
        refine v_get fX1_27 dX1_scaleToOneDigit_100 h_34 (by decide) rfl ?_
        obtain ⟨u937, f937, h_37, -⟩ := id hR
        have hcr := cmpz_r (R * 10 ^ i) (U * 10 ^ j)
        refine v_cV (av := [.ref 39]) (st := []) zyX7_against lX1_145 h_37 rfl (p_against (d := 2) hR hU) dX1_scaleToOneDigit_103 rfl rfl (Nat.le_of_ble_eq_true rfl) (by omega) (Nat.le_of_ble_eq_true rfl) (Nat.le_of_ble_eq_true rfl) (Or.inl (fun _ _ _ q => ZN q)) (fun r9 K1 n9 q9 => ?_)
        obtain ⟨rfl, q9n, q9h⟩ := q9
        have q9n := q9n.symm
        subst q9n
        have q9h := q9h.symm
        subst q9h
        refine w_if_ge 129 dX1_scaleToOneDigit_106 (by decide) (by omega) (fun c2 => ?_) (fun c2 => ?_)
        · exact absurd (cmpz_lt.mpr (hk1 i (by omega))) (by omega)
        · skip
          refine v_aload_n dX1_scaleToOneDigit_109 rfl ?_
          refine v_cV (av := []) (st := []) zyX1_growParts lX1_99 h_34 rfl (p_growParts (d := 2) h_34 hR hB hA (by rw [st10]; exact big _ _ hR1 (by omega)) (by rw [st10]; exact big _ _ hB1 (by omega)) (by rw [st10]; exact big _ _ hA1 (by omega)) (by decide)) dX1_scaleToOneDigit_110 rfl rfl (Nat.le_of_ble_eq_true rfl) (by omega) (Nat.le_of_ble_eq_true rfl) (Nat.le_of_ble_eq_true rfl) (Or.inl (fun _ _ _ q => ZN q)) (fun r9 G1 n9 q9 => ?_)
          obtain ⟨rfl, q9n, hR, hB, hA, fr9⟩ := q9
          have q9n := q9n.symm
          subst q9n
          rw [st10] at hR hB hA
          have h_34 := (fr9 34 (by decide)).trans h_34
          have hU := hU.fr fr9 (by decide) (by decide)
          have hG := hG.fr fr9 (by decide) (by decide)
          have fr := fr.tr fr9 (by decide)
          refine v_aload_n dX1_scaleToOneDigit_113 rfl ?_
          refine v_dup dX1_scaleToOneDigit_114 rfl ?_
          refine v_get fX1_136 dX1_scaleToOneDigit_115 h_34 (by decide) rfl ?_
          refine v_iconst (iI 1) dX1_scaleToOneDigit_118 rfl ?_
          refine w_isub dX1_scaleToOneDigit_119 ?_
          refine w_ei ((j : Int) - ((i + 1 : Nat) : Int)) (by omega) ?_
          refine v_put (fs' := [.ref 35, .ref 36, .ref 37, .ref 39, .ref 41, .ref 43, .ref 45, .int (iI (bz ob)), .int (iI (bz oa)), .int (iI (bz ev)), .int (iI ((j : Int) - ((i + 1 : Nat) : Int))), .int (iI cnt)]) fX1_136 dX1_scaleToOneDigit_120 h_34 (by decide) (Nat.le_of_ble_eq_true rfl) rfl rfl rfl (fun H1 eH1 => ?_)
          have h_34 : H1 34 = oPage 35 36 37 39 41 43 45 ob oa ev ((j : Int) - ((i + 1 : Nat) : Int)) cnt := zf_same eH1
          have fr := fr.put eH1 (by simp)
          refine w_iinc (lv' := [(1, .int (iI (y + 1))), (0, .ref 34)]) dX1_scaleToOneDigit_123 rfl (by decide) rfl ?_
          refine v_goto 89 dX1_scaleToOneDigit_126 (by decide) ?_
          refine w_sub (lv2 := [(0, .ref 34), (1, .int (iI (y + 1)))]) [1, 0] rfl ?_
          have fz : zFr [34] G1 H1 := zFr.put zFr.rf eH1 (by simp)
          exact ih (i + 1) (y + 1) _ (by omega) (by omega) h_34 (hR.fr fz (by decide) (by decide)) (hU.fr fz (by decide) (by decide)) (hB.fr fz (by decide) (by decide)) (hA.fr fz (by decide) (by decide)) ⟨_, hG.fr fz (by decide) (by decide)⟩ fr
  have up : ∀ (m i : Nat) (y : Int) (H : zH), i + m = j → y = i → H 34 = oPage 35 36 37 39 41 43 45 ob oa ev i cnt → WD H 37 38 R → WD H 39 40 (U * 10 ^ i) → WD H 41 42 B → WD H 43 44 A → WD H 45 46 (U * 10 ^ (i + 1)) → zFr PGS h H → (zV X (fun r h' n' => r = none ∧ n' = n ∧ h' 34 = oPage 35 36 37 39 41 43 45 ob oa ev ((j : Int) - k) cnt ∧ WD h' 37 38 (R * 10 ^ k) ∧ WD h' 39 40 (U * 10 ^ j) ∧ WD h' 41 42 (B * 10 ^ k) ∧ WD h' 43 44 (A * 10 ^ k) ∧ (∃ v, WD h' 45 46 v) ∧ zFr PGS h h') cX1_scaleToOneDigit 2 RX1 none d 0 0 29 [(0, .ref 34), (1, .int (iI y))] [] H n 0 0) := by
    intro m
    induction m with
    | zero =>
      intro i y H hi ey h_34 hR hU hB hA hG fr
      have ei : i = j := by omega
      subst ei
      refine v_iload_n dX1_scaleToOneDigit_29 rfl ?_
      refine v_bipush (iI 60) dX1_scaleToOneDigit_30 rfl ?_
      refine w_icmp_ge 87 dX1_scaleToOneDigit_32 (by decide) (by omega) (by decide) (fun c1 => ?_) (fun c1 => ?_)
      · exact absurd c1 (by omega)
      · skip
        refine v_aload_n dX1_scaleToOneDigit_35 rfl ?_
        refine v_get fX1_23 dX1_scaleToOneDigit_36 h_34 (by decide) rfl ?_
        refine v_aload_n dX1_scaleToOneDigit_39 rfl ?_
        refine v_get fX1_36 dX1_scaleToOneDigit_40 h_34 (by decide) rfl ?_
        obtain ⟨u937, f937, h_37, -⟩ := id hR
        have hcr := cmpz_r R (U * 10 ^ (i + 1))
        refine v_cV (av := [.ref 45]) (st := []) zyX7_against lX1_145 h_37 rfl (p_against (d := 2) hR hG) dX1_scaleToOneDigit_43 rfl rfl (Nat.le_of_ble_eq_true rfl) (by omega) (Nat.le_of_ble_eq_true rfl) (Nat.le_of_ble_eq_true rfl) (Or.inl (fun _ _ _ q => ZN q)) (fun r9 K1 n9 q9 => ?_)
        obtain ⟨rfl, q9n, q9h⟩ := q9
        have q9n := q9n.symm
        subst q9n
        have q9h := q9h.symm
        subst q9h
        refine w_if_lt 87 dX1_scaleToOneDigit_46 (by decide) (by omega) (fun c2 => ?_) (fun c2 => ?_)
        · skip
          refine v_iconst (iI 0) dX1_scaleToOneDigit_87 rfl ?_
          refine v_istore_n (i := 1) (lv' := [(1, .int (iI 0)), (0, .ref 34)]) dX1_scaleToOneDigit_88 rfl (by decide) rfl ?_
          refine w_sub (lv2 := [(0, .ref 34), (1, .int (iI 0))]) [1, 0] rfl ?_
          exact low k 0 0 _ (by omega) rfl (by rw [show ((i : Int) - (0 : Nat)) = i from by omega]; exact h_34) (by rw [Nat.pow_zero, Nat.mul_one]; exact hR) hU (by rw [Nat.pow_zero, Nat.mul_one]; exact hB) (by rw [Nat.pow_zero, Nat.mul_one]; exact hA) ⟨_, hG⟩ fr
        · exact absurd (cmpz_lt.mpr hj2) (by omega)
    | succ m ih =>
      intro i y H hi ey h_34 hR hU hB hA hG fr
      refine v_iload_n dX1_scaleToOneDigit_29 rfl ?_
      refine v_bipush (iI 60) dX1_scaleToOneDigit_30 rfl ?_
      refine w_icmp_ge 87 dX1_scaleToOneDigit_32 (by decide) (by omega) (by decide) (fun c1 => ?_) (fun c1 => ?_)
      · exact absurd c1 (by omega)
      · skip
        refine v_aload_n dX1_scaleToOneDigit_35 rfl ?_
        refine v_get fX1_23 dX1_scaleToOneDigit_36 h_34 (by decide) rfl ?_
        refine v_aload_n dX1_scaleToOneDigit_39 rfl ?_
        refine v_get fX1_36 dX1_scaleToOneDigit_40 h_34 (by decide) rfl ?_
        obtain ⟨u937, f937, h_37, -⟩ := id hR
        have hcr := cmpz_r R (U * 10 ^ (i + 1))
        refine v_cV (av := [.ref 45]) (st := []) zyX7_against lX1_145 h_37 rfl (p_against (d := 2) hR hG) dX1_scaleToOneDigit_43 rfl rfl (Nat.le_of_ble_eq_true rfl) (by omega) (Nat.le_of_ble_eq_true rfl) (Nat.le_of_ble_eq_true rfl) (Or.inl (fun _ _ _ q => ZN q)) (fun r9 K1 n9 q9 => ?_)
        obtain ⟨rfl, q9n, q9h⟩ := q9
        have q9n := q9n.symm
        subst q9n
        have q9h := q9h.symm
        subst q9h
        refine w_if_lt 87 dX1_scaleToOneDigit_46 (by decide) (by omega) (fun c2 => ?_) (fun c2 => ?_)
        · exact absurd (cmpz_lt.mp c2) (by have := hj1 i (by omega); omega)
        · skip
          refine v_aload_n dX1_scaleToOneDigit_49 rfl ?_
          refine v_get fX1_27 dX1_scaleToOneDigit_50 h_34 (by decide) rfl ?_
          refine v_aload_n dX1_scaleToOneDigit_53 rfl ?_
          refine v_get fX1_36 dX1_scaleToOneDigit_54 h_34 (by decide) rfl ?_
          obtain ⟨u939, f939, h_39, -⟩ := id hU
          refine v_cV (av := [.ref 45]) (st := []) zyX7_copy lX1_129 h_39 rfl (p_copy (d := 2) hU hG (by decide) (by decide)) dX1_scaleToOneDigit_57 rfl rfl (Nat.le_of_ble_eq_true rfl) (by omega) (Nat.le_of_ble_eq_true rfl) (Nat.le_of_ble_eq_true rfl) (Or.inl (fun _ _ _ q => ZN q)) (fun r9 G1 n9 q9 => ?_)
          obtain ⟨rfl, q9n, hU, fr9⟩ := q9
          have q9n := q9n.symm
          subst q9n
          have h_34 := (fr9 34 (by decide)).trans h_34
          have hR := hR.fr fr9 (by decide) (by decide)
          have hB := hB.fr fr9 (by decide) (by decide)
          have hA := hA.fr fr9 (by decide) (by decide)
          have hG := hG.fr fr9 (by decide) (by decide)
          have fr := fr.tr fr9 (by decide)
          refine v_aload_n dX1_scaleToOneDigit_60 rfl ?_
          refine v_get fX1_36 dX1_scaleToOneDigit_61 h_34 (by decide) rfl ?_
          refine v_ldc2_w (v := jL 10) kX1_139 dX1_scaleToOneDigit_64 ?_
          refine v_lconst (jL 0) dX1_scaleToOneDigit_67 rfl ?_
          obtain ⟨u945, f945, h_45, -⟩ := id hG
          refine v_cV (av := [.long (jL 10), .long (jL 0)]) (st := []) zyX7_grow lX1_141 h_45 rfl (p_grow (d := 2) (x := 10) (y := 0) hG (by decide) (by decide) (by decide) (by rw [st10]; exact big _ _ hU1 (by omega))) dX1_scaleToOneDigit_68 rfl rfl (Nat.le_of_ble_eq_true rfl) (by omega) (Nat.le_of_ble_eq_true rfl) (Nat.le_of_ble_eq_true rfl) (Or.inl (fun _ _ _ q => ZN q)) (fun r9 G2 n9 q9 => ?_)
          obtain ⟨rfl, q9n, hG, fr8⟩ := q9
          have q9n := q9n.symm
          subst q9n
          rw [st10] at hG
          have h_34 := (fr8 34 (by decide)).trans h_34
          have hR := hR.fr fr8 (by decide) (by decide)
          have hU := hU.fr fr8 (by decide) (by decide)
          have hB := hB.fr fr8 (by decide) (by decide)
          have hA := hA.fr fr8 (by decide) (by decide)
          have fr := fr.tr fr8 (by decide)
          refine v_aload_n dX1_scaleToOneDigit_71 rfl ?_
          refine v_dup dX1_scaleToOneDigit_72 rfl ?_
          refine v_get fX1_136 dX1_scaleToOneDigit_73 h_34 (by decide) rfl ?_
          refine v_iconst (iI 1) dX1_scaleToOneDigit_76 rfl ?_
          refine w_iadd dX1_scaleToOneDigit_77 ?_
          refine w_ei ((i + 1 : Nat) : Int) (by omega) ?_
          refine v_put (fs' := [.ref 35, .ref 36, .ref 37, .ref 39, .ref 41, .ref 43, .ref 45, .int (iI (bz ob)), .int (iI (bz oa)), .int (iI (bz ev)), .int (iI ((i + 1 : Nat) : Int)), .int (iI cnt)]) fX1_136 dX1_scaleToOneDigit_78 h_34 (by decide) (Nat.le_of_ble_eq_true rfl) rfl rfl rfl (fun H1 eH1 => ?_)
          have h_34 : H1 34 = oPage 35 36 37 39 41 43 45 ob oa ev ((i + 1 : Nat) : Int) cnt := zf_same eH1
          have fr := fr.put eH1 (by simp)
          refine w_iinc (lv' := [(1, .int (iI (y + 1))), (0, .ref 34)]) dX1_scaleToOneDigit_81 rfl (by decide) rfl ?_
          refine v_goto 29 dX1_scaleToOneDigit_84 (by decide) ?_
          refine w_sub (lv2 := [(0, .ref 34), (1, .int (iI (y + 1)))]) [1, 0] rfl ?_
          have fz : zFr [34] G2 H1 := zFr.put zFr.rf eH1 (by simp)
          exact ih (i + 1) (y + 1) _ (by omega) (by omega) h_34 (hR.fr fz (by decide) (by decide)) (hU.fr fz (by decide) (by decide)) (hB.fr fz (by decide) (by decide)) (hA.fr fz (by decide) (by decide)) (hG.fr fz (by decide) (by decide)) fr
  refine v_aload_n dX1_scaleToOneDigit_0 rfl ?_
  refine v_iconst (iI 0) dX1_scaleToOneDigit_1 rfl ?_
  refine v_put (fs' := [.ref 35, .ref 36, .ref 37, .ref 39, .ref 41, .ref 43, .ref 45, .int (iI (bz ob)), .int (iI (bz oa)), .int (iI (bz ev)), .int (iI 0), .int (iI cnt)]) fX1_136 dX1_scaleToOneDigit_2 h_34 (by decide) (Nat.le_of_ble_eq_true rfl) rfl rfl rfl (fun H1 eH1 => ?_)
  have h_34 : H1 34 = oPage 35 36 37 39 41 43 45 ob oa ev 0 cnt := zf_same eH1
  have fr := fr.put eH1 (by simp)
  refine v_aload_n dX1_scaleToOneDigit_5 rfl ?_
  refine v_get fX1_36 dX1_scaleToOneDigit_6 h_34 (by decide) rfl ?_
  refine v_aload_n dX1_scaleToOneDigit_9 rfl ?_
  refine v_get fX1_27 dX1_scaleToOneDigit_10 h_34 (by decide) rfl ?_
  have fz : zFr [34] h H1 := zFr.put zFr.rf eH1 (by simp)
  have hR := hR.fr fz (by decide) (by decide)
  have hU := hU.fr fz (by decide) (by decide)
  have hB := hB.fr fz (by decide) (by decide)
  have hA := hA.fr fz (by decide) (by decide)
  have hG := hG.fr fz (by decide) (by decide)
  obtain ⟨u945, f945, h_45, -⟩ := id hG
  refine v_cV (av := [.ref 39]) (st := []) zyX7_copy lX1_129 h_45 rfl (p_copy (d := 2) hG hU (by decide) (by decide)) dX1_scaleToOneDigit_13 rfl rfl (Nat.le_of_ble_eq_true rfl) (by omega) (Nat.le_of_ble_eq_true rfl) (Nat.le_of_ble_eq_true rfl) (Or.inl (fun _ _ _ q => ZN q)) (fun r9 G1 n9 q9 => ?_)
  obtain ⟨rfl, q9n, hG, fr9⟩ := q9
  have q9n := q9n.symm
  subst q9n
  have h_34 := (fr9 34 (by decide)).trans h_34
  have hR := hR.fr fr9 (by decide) (by decide)
  have hU := hU.fr fr9 (by decide) (by decide)
  have hB := hB.fr fr9 (by decide) (by decide)
  have hA := hA.fr fr9 (by decide) (by decide)
  have fr := fr.tr fr9 (by decide)
  refine v_aload_n dX1_scaleToOneDigit_16 rfl ?_
  refine v_get fX1_36 dX1_scaleToOneDigit_17 h_34 (by decide) rfl ?_
  refine v_ldc2_w (v := jL 10) kX1_139 dX1_scaleToOneDigit_20 ?_
  refine v_lconst (jL 0) dX1_scaleToOneDigit_23 rfl ?_
  obtain ⟨u945, f945, h_45, -⟩ := id hG
  refine v_cV (av := [.long (jL 10), .long (jL 0)]) (st := []) zyX7_grow lX1_141 h_45 rfl (p_grow (d := 2) (x := 10) (y := 0) hG (by decide) (by decide) (by decide) (by have := big U 1 hU1 (by decide); rw [Nat.pow_one] at this; exact this)) dX1_scaleToOneDigit_24 rfl rfl (Nat.le_of_ble_eq_true rfl) (by omega) (Nat.le_of_ble_eq_true rfl) (Nat.le_of_ble_eq_true rfl) (Or.inl (fun _ _ _ q => ZN q)) (fun r9 G2 n9 q9 => ?_)
  obtain ⟨rfl, q9n, hG, fr8⟩ := q9
  have q9n := q9n.symm
  subst q9n
  have h_34 := (fr8 34 (by decide)).trans h_34
  have hR := hR.fr fr8 (by decide) (by decide)
  have hU := hU.fr fr8 (by decide) (by decide)
  have hB := hB.fr fr8 (by decide) (by decide)
  have hA := hA.fr fr8 (by decide) (by decide)
  have fr := fr.tr fr8 (by decide)
  refine v_iconst (iI 0) dX1_scaleToOneDigit_27 rfl ?_
  refine v_istore_n (i := 1) (lv' := [(1, .int (iI 0)), (0, .ref 34)]) dX1_scaleToOneDigit_28 rfl (by decide) rfl ?_
  refine w_sub (lv2 := [(0, .ref 34), (1, .int (iI 0))]) [1, 0] rfl ?_
  exact up j 0 0 _ (by omega) rfl h_34 hR (by rw [Nat.pow_zero, Nat.mul_one]; exact hU) hB hA (by rw [Nat.zero_add, Nat.pow_one]; exact hG) fr
/-- one step of the shortest decimal: whether the digits down and up would do -/
def sDn (ob ev : Bool) (U R B : Nat) : Bool := ob || fit (R % U) B ev
def sUf (oa ev : Bool) (U R A : Nat) : Bool := oa || fit (U - R % U) A ev
def sUp (ob oa ev : Bool) (U R B A : Nat) : Bool := sUf oa ev U R A && (!sDn ob ev U R B || decide (U - R % U < R % U))
def sRoll (ob oa ev fi : Bool) (U R B A : Nat) : Bool := sUp ob oa ev U R B A && (fi && decide (R / U = 9))
def sCh (ob oa ev fi : Bool) (U R B A : Nat) : Nat := 48 + cond (sRoll ob oa ev fi U R B A) 0 (R / U) + cond (sUp ob oa ev U R B A) 1 0
def sStop (ob oa ev : Bool) (U R B A : Nat) : Bool := sDn ob ev U R B || sUf oa ev U R A
