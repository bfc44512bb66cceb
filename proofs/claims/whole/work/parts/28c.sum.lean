/-! The reference: single values, and what is to be rounded -/
set_option maxHeartbeats 8000000 in
set_option maxRecDepth 100000 in
theorem p_gatherOne {d n s a b p : Nat} {by9 Q vs vm ve sg e rt th tp wr at9 sz dg pw tn fm : Int} {na : Bool} {wd pt : Nat → Nat} {h : zH} (h_47 : h 47 = oModel vs vm ve sg e rt th tp wr at9 sz dg pw tn fm) (h_48 : h 48 = aN 32 wd) (h_49 : h 49 = aM 32 pt) (hPL : PL wd pt) (hp : p < 32) (hp9 : pt p ≠ 2 ^ (wd p - 1)) (hQ : SQ h s a b Q na) (hP : NS h 62 63) (hS : NS h 64 65) (hne : gne s a b) (hby : by9 = 1 ∨ by9 = -1) (hb1 : nb Q.natAbs ≤ 5000) (hd : 3 ≤ d) :
    zM yX11_gatherOne cX11_gatherOne 4 none d 0 0 [.ref 47, .ref s, .int (iI (p:Nat)), .int (iI by9)] h n (fun r h' n' => r = none ∧ n' = n ∧ (∃ vs vm ve, h' 47 = oModel vs vm ve sg e rt th tp wr at9 sz dg pw tn fm) ∧ SQ h' s a b (Q + by9 * (pvI (pt p) (wd p) * (2 ^ 120 : Nat))) na ∧ NS h' 62 63 ∧ NS h' 64 65 ∧ zFr [47, s, a, b, 62, 63, 64, 65] h h') := by
  obtain ⟨hc_s, hc_z⟩ := id hQ
  obtain ⟨_, _, hc_a, hc_b, -⟩ := id hc_z
  have ns47 : gq s 47 := cne h_47 hc_s (by decide)
  have na47 : gq a 47 := cne h_47 hc_a (by decide)
  have nb47 : gq b 47 := wne h_47 hc_b
  refine zM_of zyX11_gatherOne rfl (Nat.le_of_ble_eq_true rfl) (fun X hX => ?_)
  have fr : zFr [47, s, a, b, 62, 63, 64, 65] h h := zFr.rf
  refine v_aload_n dX11_gatherOne_0 rfl ?_
  refine v_iload_n dX11_gatherOne_1 rfl ?_
  refine v_cV (av := [.int (iI (p:Nat))]) (st := []) zyX11_look lX11_112 h_47 rfl (p_look (d := 2) h_47 h_48 h_49 hPL hp (by decide)) dX11_gatherOne_2 rfl rfl (Nat.le_of_ble_eq_true rfl) (by omega) (Nat.le_of_ble_eq_true rfl) (Nat.le_of_ble_eq_true rfl) (Or.inl (fun _ _ _ q => ZN q)) (fun r9 G1 n9 q9 => ?_)
  obtain ⟨rfl, q9n, ⟨s1, M1, E1, h_47, hl1, hm1, hx1, hy1⟩, fr9⟩ := q9
  have q9n := q9n.symm
  subst q9n
  have hQ := hQ.fr fr9 (by simp [ns47.nn]) (by simp [na47.nn]) (by simp [nb47.nn])
  have hP := hP.fr fr9 (by decide) (by decide)
  have hS := hS.fr fr9 (by decide) (by decide)
  have fr := fr.tr fr9 (by simp)
  have l1 := lk_pv hl1 hp9
  refine v_aload_n dX11_gatherOne_5 rfl ?_
  refine v_get fX11_100 dX11_gatherOne_6 h_47 (by decide) rfl ?_
  refine v_aload_n dX11_gatherOne_9 rfl ?_
  refine v_get fX11_7 dX11_gatherOne_10 h_47 (by decide) rfl ?_
  obtain ⟨_, _, h_62, -⟩ := id hP
  refine v_cV (av := [.long (jL (M1:Nat))]) (st := []) zyX9_set lX11_39 h_62 rfl (p_nset (d := 2) (x := M1) hP (by omega) (by omega) (by omega)) dX11_gatherOne_13 rfl rfl (Nat.le_of_ble_eq_true rfl) (by omega) (Nat.le_of_ble_eq_true rfl) (Nat.le_of_ble_eq_true rfl) (Or.inl (fun _ _ _ q => ZN q)) (fun r9 G3 n9 q9 => ?_)
  obtain ⟨rfl, q9n, hP, fr7⟩ := q9
  have q9n := q9n.symm
  subst q9n
  have h_47 := (fr7 47 (by decide)).trans h_47
  have hQ := hQ.fr fr7 (by simp [hne.2.2.1, hne.2.2.2.1]) (by simp [hne.1.1, hne.1.2.1]) (by simp [hne.1.2.2.1, hne.1.2.2.2])
  have hS := hS.fr fr7 (by decide) (by decide)
  have fr := fr.tr fr7 (by simp)
  have hnM1 : nb M1 ≤ 32 := nb_le (k := 32) hm1
  have fin : ∀ (H : zH) (P : Nat), (s1 * by9 ≠ 0 → ND H 62 63 P ∧ 0 < P) → nb P ≤ 5000 → s1 * by9 * (P : Int) = by9 * (pvI (pt p) (wd p) * (2 ^ 120 : Nat)) → H 47 = oModel s1 (M1:Nat) E1 sg e rt th tp wr at9 sz dg pw tn fm → SQ H s a b Q na → NS H 62 63 → NS H 64 65 → zFr [47, s, a, b, 62, 63, 64, 65] h H → (zV X (fun r h' n' => r = none ∧ n' = n ∧ (∃ vs vm ve, h' 47 = oModel vs vm ve sg e rt th tp wr at9 sz dg pw tn fm) ∧ SQ h' s a b (Q + by9 * (pvI (pt p) (wd p) * (2 ^ 120 : Nat))) na ∧ NS h' 62 63 ∧ NS h' 64 65 ∧ zFr [47, s, a, b, 62, 63, 64, 65] h h') cX11_gatherOne 4 RX11 none d 0 0 38 [(0, .ref 47), (1, .ref s), (3, .int (iI by9))] [] H n 0 0) := by
    intro H P hPP hnP eP h_47 hQ hPs hS fr
    have hps : s1 * by9 = -1 ∨ s1 * by9 = 0 ∨ s1 * by9 = 1 := by
      have k1 : s1 = 0 ∨ s1 = 1 ∨ s1 = -1 := by omega
      rcases k1 with rfl | rfl | rfl <;> rcases hby with rfl | rfl <;> decide
    refine v_aload_n dX11_gatherOne_38 rfl ?_
    refine v_aload_n dX11_gatherOne_39 rfl ?_
    refine v_aload_n dX11_gatherOne_40 rfl ?_
    refine v_get fX11_17 dX11_gatherOne_41 h_47 (by decide) rfl ?_
    refine v_iload_n dX11_gatherOne_44 rfl ?_
    refine w_imul dX11_gatherOne_45 ?_
    refine v_cV (av := [.ref s, .int (iI (s1 * by9))]) (st := []) zyX11_gather lX11_115 h_47 rfl (p_mgather (d := 2) h_47 hQ hPP hS hne hps hb1 hnP (by decide)) dX11_gatherOne_46 rfl rfl (Nat.le_of_ble_eq_true rfl) (by omega) (Nat.le_of_ble_eq_true rfl) (Nat.le_of_ble_eq_true rfl) (Or.inl (fun _ _ _ q => ZN q)) (fun r9 G9 n9 q9 => ?_)
    obtain ⟨rfl, q9n, hQ, hS, fr9⟩ := q9
    have q9n := q9n.symm
    subst q9n
    rw [eP] at hQ
    have h_47 := (fr9 47 (by simp [ns47.nn.symm, na47.nn.symm, nb47.nn.symm])).trans h_47
    have hPs := hPs.fr fr9 (by simp [hne.2.2.1.symm, hne.1.1.symm, hne.1.2.2.1.symm]) (by simp [hne.2.2.2.1.symm, hne.1.2.1.symm, hne.1.2.2.2.symm])
    exact v_vret dX11_gatherOne_49 trivial (Nat.le_of_ble_eq_true rfl) (Nat.le_of_ble_eq_true rfl) ⟨rfl, rfl, ⟨_, _, _, h_47⟩, hQ, hPs, hS, fr.tr fr9 (by simp)⟩
  refine v_aload_n dX11_gatherOne_16 rfl ?_
  refine v_get fX11_17 dX11_gatherOne_17 h_47 (by decide) rfl ?_
  refine w_if_eq 38 dX11_gatherOne_20 (by decide) (by omega) (fun c1 => ?_) (fun c1 => ?_)
  · skip
    refine w_sub (lv2 := [(0, .ref 47), (1, .ref s), (3, .int (iI by9))]) [0, 1, 3] rfl ?_
    have e0 : pvI (pt p) (wd p) = 0 := by
      rcases l1 with ⟨-, -, -, -, z⟩ | ⟨-, z, -⟩
      · exact z
      · omega
    exact fin _ 0 (fun z => absurd (by rw [c1, Int.zero_mul]) z) (by decide) (by rw [e0, Int.zero_mul, Int.mul_zero]; simp) h_47 hQ hP.ns hS fr
  · obtain ⟨-, k1, f1, g1, g1', v1, -⟩ := l1.resolve_left (fun z => c1 z.2.1)
    refine v_aload_n dX11_gatherOne_23 rfl ?_
    refine v_get fX11_100 dX11_gatherOne_24 h_47 (by decide) rfl ?_
    refine v_aload_n dX11_gatherOne_27 rfl ?_
    refine v_get fX11_13 dX11_gatherOne_28 h_47 (by decide) rfl ?_
    refine v_sipush (iI 240) dX11_gatherOne_31 rfl ?_
    refine w_iadd dX11_gatherOne_34 ?_
    refine w_ei ((E1 + 240).toNat:Nat) (by omega) ?_
    obtain ⟨_, _, h_62, -⟩ := id hP
    refine v_cV (av := [.int (iI ((E1 + 240).toNat:Nat))]) (st := []) zyX9_shift lX11_71 h_62 rfl (p_nshift (d := 2) hP (by decide) (by omega) (big_sh (by omega))) dX11_gatherOne_35 rfl rfl (Nat.le_of_ble_eq_true rfl) (by omega) (Nat.le_of_ble_eq_true rfl) (Nat.le_of_ble_eq_true rfl) (Or.inl (fun _ _ _ q => ZN q)) (fun r9 G5 n9 q9 => ?_)
    obtain ⟨rfl, q9n, hP, fr5⟩ := q9
    have q9n := q9n.symm
    subst q9n
    have h_47 := (fr5 47 (by decide)).trans h_47
    have hQ := hQ.fr fr5 (by simp [hne.2.2.1, hne.2.2.2.1]) (by simp [hne.1.1, hne.1.2.1]) (by simp [hne.1.2.2.1, hne.1.2.2.2])
    have hS := hS.fr fr5 (by decide) (by decide)
    have fr := fr.tr fr5 (by simp)
    refine w_sub (lv2 := [(0, .ref 47), (1, .ref s), (3, .int (iI by9))]) [0, 1, 3] rfl ?_
    have hnb3 := nb_pow2 (x := M1) (t := (E1 + 240).toNat)
    refine fin _ (M1 * 2 ^ (E1 + 240).toNat) (fun _ => ⟨hP, Nat.mul_pos f1 (p_pos _)⟩) (by omega) ?_ h_47 hQ hP.ns hS fr
    rw [v1]
    have e9 : M1 * 2 ^ (E1 + 240).toNat = (M1 * 2 ^ (E1 + 120).toNat) * 2 ^ 120 := by
      rw [show (E1 + 240).toNat = (E1 + 120).toNat + 120 from by omega, Nat.pow_add, Nat.mul_assoc]
    rw [e9, Int.natCast_mul]
    generalize ((M1 * 2 ^ (E1 + 120).toNat : Nat) : Int) = A
    generalize ((2 ^ 120 : Nat) : Int) = B
    rcases k1 with rfl | rfl <;> rcases hby with rfl | rfl <;> simp [Int.neg_mul, Int.mul_neg]
set_option maxHeartbeats 8000000 in
set_option maxRecDepth 100000 in
theorem p_takeSum {d n s a b : Nat} {Q vs vm ve sg e rt th tp wr at9 sz dg pw tn fm : Int} {na : Bool} {h : zH} (h_47 : h 47 = oModel vs vm ve sg e rt th tp wr at9 sz dg pw tn fm) (hQ : SQ h s a b Q na) (hA : NS h 50 51) (hB : NS h 52 53) (hne : (s ≠ 47 ∧ s ≠ 50 ∧ s ≠ 51 ∧ s ≠ 52 ∧ s ≠ 53) ∧ (a ≠ 47 ∧ a ≠ 50 ∧ a ≠ 51 ∧ a ≠ 52 ∧ a ≠ 53) ∧ (b ≠ 47 ∧ b ≠ 50 ∧ b ≠ 51 ∧ b ≠ 52 ∧ b ≠ 53)) (hd : 2 ≤ d) :
    zM yX11_takeSum cX11_takeSum 2 none d 0 0 [.ref 47, .ref s] h n (fun r h' n' => r = none ∧ n' = n ∧ h' 47 = oModel vs vm ve (sgI Q) (-240) 1 th tp wr at9 sz dg pw tn fm ∧ ND h' 50 51 Q.natAbs ∧ ND h' 52 53 1 ∧ zFr [47, 50, 51, 52, 53] h h') := by
  obtain ⟨h_s, -⟩ := id hQ
  refine zM_of zyX11_takeSum rfl (Nat.le_of_ble_eq_true rfl) (fun X hX => ?_)
  have fr : zFr [47, 50, 51, 52, 53] h h := zFr.rf
  refine v_aload_n dX11_takeSum_0 rfl ?_
  refine v_aload_n dX11_takeSum_1 rfl ?_
  refine v_getN fX11_94 dX11_takeSum_2 h_s (by decide) rfl ?_
  refine v_cV (av := [.int (iI (sgI Q))]) (st := []) zyX11_begin lX11_119 h_47 rfl (p_begin (d := 1) h_47 hA hB (by decide)) dX11_takeSum_5 rfl rfl (Nat.le_of_ble_eq_true rfl) (by omega) (Nat.le_of_ble_eq_true rfl) (Nat.le_of_ble_eq_true rfl) (Or.inl (fun _ _ _ q => ZN q)) (fun r9 G1 n9 q9 => ?_)
  obtain ⟨rfl, q9n, h_47, hA, hB, fr9⟩ := q9
  have q9n := q9n.symm
  subst q9n
  have hQ := hQ.fr fr9 (by simp [hne]) (by simp [hne]) (by simp [hne])
  obtain ⟨h_s, hZ⟩ := id hQ
  have fr := fr.tr fr9 (by decide)
  refine v_aload_n dX11_takeSum_8 rfl ?_
  refine v_get fX11_35 dX11_takeSum_9 h_47 (by decide) rfl ?_
  refine v_aload_n dX11_takeSum_12 rfl ?_
  refine v_getN fX11_97 dX11_takeSum_13 h_s (by decide) rfl ?_
  obtain ⟨_, _, h_50, -⟩ := id hA
  refine v_cV (av := [.ref a]) (st := []) zyX9_copy lX11_57 h_50 rfl (p_ncopy (d := 1) hA.ns hZ ⟨hne.2.1.2.1, hne.2.1.2.2.1, hne.2.2.2.1, hne.2.2.2.2.1⟩) dX11_takeSum_16 rfl rfl (Nat.le_of_ble_eq_true rfl) (by omega) (Nat.le_of_ble_eq_true rfl) (Nat.le_of_ble_eq_true rfl) (Or.inl (fun _ _ _ q => ZN q)) (fun r9 G2 n9 q9 => ?_)
  obtain ⟨rfl, q9n, hA, fr8⟩ := q9
  have q9n := q9n.symm
  subst q9n
  have h_47 := (fr8 47 (by decide)).trans h_47
  have hB := hB.fr fr8 (by decide) (by decide)
  have fr := fr.tr fr8 (by decide)
  refine v_aload_n dX11_takeSum_19 rfl ?_
  refine v_sipush (iI (-240)) dX11_takeSum_20 rfl ?_
  refine v_put (fs' := [.int (iI vs), .long (jL vm), .int (iI ve), .ref 48, .ref 49, .int (iI (sgI Q)), .ref 50, .ref 52, .int (iI (-240)), .int (iI 1), .ref 54, .ref 56, .ref 58, .ref 59, .ref 62, .ref 64, .int (iI th), .ref 66, .int (iI tp), .ref 67, .int (iI wr), .int (iI at9), .int (iI sz), .int (iI dg), .int (iI pw), .ref 68, .ref 69, .ref 71, .int (iI tn), .ref 73, .int (iI fm), .ref 74, .ref 76]) fX11_48 dX11_takeSum_23 h_47 (by decide) (Nat.le_of_ble_eq_true rfl) rfl rfl rfl (fun H1 eH1 => ?_)
  have h_47 : H1 47 = oModel vs vm ve (sgI Q) (-240) 1 th tp wr at9 sz dg pw tn fm := zf_same eH1
  have fr := fr.put eH1 (by simp)
  have fz : zFr [47] G2 H1 := zFr.put zFr.rf eH1 (by simp)
  exact v_vret dX11_takeSum_26 trivial (Nat.le_of_ble_eq_true rfl) (Nat.le_of_ble_eq_true rfl) ⟨rfl, rfl, h_47, hA.fr fz (by decide) (by decide), hB.fr fz (by decide) (by decide), fr⟩
set_option maxHeartbeats 8000000 in
set_option maxRecDepth 100000 in
theorem p_takeValue {d n p : Nat} {vs vm ve sg e rt th tp wr at9 sz dg pw tn fm : Int} {wd pt : Nat → Nat} {h : zH} (h_47 : h 47 = oModel vs vm ve sg e rt th tp wr at9 sz dg pw tn fm) (h_48 : h 48 = aN 32 wd) (h_49 : h 49 = aM 32 pt) (hPL : PL wd pt) (hp : p < 32) (hA : NS h 50 51) (hB : NS h 52 53) (hd : 3 ≤ d) :
    zM yX11_takeValue cX11_takeValue 2 none d 0 0 [.ref 47, .int (iI (p:Nat))] h n (fun r h' n' => r = none ∧ n' = n ∧ (∃ (s : Int) (M : Nat) (E : Int), h' 47 = oModel s (M:Nat) E s E 1 th tp wr at9 sz dg pw tn fm ∧ lk (pt p) (wd p) s M E ∧ M < 4294967296 ∧ -300 ≤ E ∧ E ≤ 300 ∧ ND h' 50 51 M ∧ ND h' 52 53 1) ∧ zFr [47, 50, 51, 52, 53] h h') := by
  refine zM_of zyX11_takeValue rfl (Nat.le_of_ble_eq_true rfl) (fun X hX => ?_)
  have fr : zFr [47, 50, 51, 52, 53] h h := zFr.rf
  refine v_aload_n dX11_takeValue_0 rfl ?_
  refine v_iload_n dX11_takeValue_1 rfl ?_
  refine v_cV (av := [.int (iI (p:Nat))]) (st := []) zyX11_look lX11_112 h_47 rfl (p_look (d := 2) h_47 h_48 h_49 hPL hp (by decide)) dX11_takeValue_2 rfl rfl (Nat.le_of_ble_eq_true rfl) (by omega) (Nat.le_of_ble_eq_true rfl) (Nat.le_of_ble_eq_true rfl) (Or.inl (fun _ _ _ q => ZN q)) (fun r9 G1 n9 q9 => ?_)
  obtain ⟨rfl, q9n, ⟨s1, M1, E1, h_47, hl1, hm1, hx1, hy1⟩, fr9⟩ := q9
  have q9n := q9n.symm
  subst q9n
  have hA := hA.fr fr9 (by decide) (by decide)
  have hB := hB.fr fr9 (by decide) (by decide)
  have fr := fr.tr fr9 (by decide)
  refine v_aload_n dX11_takeValue_5 rfl ?_
  refine v_aload_n dX11_takeValue_6 rfl ?_
  refine v_get fX11_17 dX11_takeValue_7 h_47 (by decide) rfl ?_
  refine v_cV (av := [.int (iI s1)]) (st := []) zyX11_begin lX11_119 h_47 rfl (p_begin (d := 2) h_47 hA hB (by decide)) dX11_takeValue_10 rfl rfl (Nat.le_of_ble_eq_true rfl) (by omega) (Nat.le_of_ble_eq_true rfl) (Nat.le_of_ble_eq_true rfl) (Or.inl (fun _ _ _ q => ZN q)) (fun r9 G2 n9 q9 => ?_)
  obtain ⟨rfl, q9n, h_47, hA, hB, fr8⟩ := q9
  have q9n := q9n.symm
  subst q9n
  have fr := fr.tr fr8 (by decide)
  refine v_aload_n dX11_takeValue_13 rfl ?_
  refine v_get fX11_35 dX11_takeValue_14 h_47 (by decide) rfl ?_
  refine v_aload_n dX11_takeValue_17 rfl ?_
  refine v_get fX11_7 dX11_takeValue_18 h_47 (by decide) rfl ?_
  obtain ⟨_, _, h_50, -⟩ := id hA
  refine v_cV (av := [.long (jL (M1:Nat))]) (st := []) zyX9_set lX11_39 h_50 rfl (p_nset (d := 2) (x := M1) hA.ns (by omega) (by omega) (by omega)) dX11_takeValue_21 rfl rfl (Nat.le_of_ble_eq_true rfl) (by omega) (Nat.le_of_ble_eq_true rfl) (Nat.le_of_ble_eq_true rfl) (Or.inl (fun _ _ _ q => ZN q)) (fun r9 G3 n9 q9 => ?_)
  obtain ⟨rfl, q9n, hA, fr7⟩ := q9
  have q9n := q9n.symm
  subst q9n
  have h_47 := (fr7 47 (by decide)).trans h_47
  have hB := hB.fr fr7 (by decide) (by decide)
  have fr := fr.tr fr7 (by decide)
  refine v_aload_n dX11_takeValue_24 rfl ?_
  refine v_aload_n dX11_takeValue_25 rfl ?_
  refine v_get fX11_13 dX11_takeValue_26 h_47 (by decide) rfl ?_
  refine v_put (fs' := [.int (iI s1), .long (jL (M1:Nat)), .int (iI E1), .ref 48, .ref 49, .int (iI s1), .ref 50, .ref 52, .int (iI E1), .int (iI 1), .ref 54, .ref 56, .ref 58, .ref 59, .ref 62, .ref 64, .int (iI th), .ref 66, .int (iI tp), .ref 67, .int (iI wr), .int (iI at9), .int (iI sz), .int (iI dg), .int (iI pw), .ref 68, .ref 69, .ref 71, .int (iI tn), .ref 73, .int (iI fm), .ref 74, .ref 76]) fX11_48 dX11_takeValue_29 h_47 (by decide) (Nat.le_of_ble_eq_true rfl) rfl rfl rfl (fun H1 eH1 => ?_)
  have h_47 : H1 47 = oModel s1 (M1:Nat) E1 s1 E1 1 th tp wr at9 sz dg pw tn fm := zf_same eH1
  have fr := fr.put eH1 (by simp)
  have fz : zFr [47] G3 H1 := zFr.put zFr.rf eH1 (by simp)
  exact v_vret dX11_takeValue_32 trivial (Nat.le_of_ble_eq_true rfl) (Nat.le_of_ble_eq_true rfl) ⟨rfl, rfl, ⟨s1, M1, E1, h_47, hl1, hm1, hx1, hy1, hA.fr fz (by decide) (by decide), hB.fr fz (by decide) (by decide)⟩, fr⟩
set_option maxHeartbeats 8000000 in
set_option maxRecDepth 100000 in
theorem p_isPlace {d n : Nat} {p : Int} {h : zH} (hp : -2147483648 ≤ p ∧ p < 2147483648) :
    zM yX11_isPlace cX11_isPlace 1 (some .boolean) d 0 0 [.int (iI p)] h n (fun r h' n' => r = some (.int (iI (bz (decide (0 ≤ p ∧ p < 32))))) ∧ n' = n ∧ h' = h) := by
  refine zM_of zyX11_isPlace rfl (Nat.le_of_ble_eq_true rfl) (fun X hX => ?_)
  refine v_iload_n dX11_isPlace_0 rfl ?_
  refine w_if_lt 14 dX11_isPlace_1 (by decide) (by omega) (fun c1 => ?_) (fun c1 => ?_)
  · skip
    refine v_iconst (iI 0) dX11_isPlace_14 rfl ?_
    refine w_ei (bz false) rfl ?_
    exact v_iret dX11_isPlace_15 bz_ret (Nat.le_of_ble_eq_true rfl) (Nat.le_of_ble_eq_true rfl) ⟨by rw [decide_eq_false (by omega)], rfl, rfl⟩
  · skip
    refine v_iload_n dX11_isPlace_4 rfl ?_
    refine v_bipush (iI 32) dX11_isPlace_5 rfl ?_
    refine w_icmp_ge 14 dX11_isPlace_7 (by decide) (by omega) (by decide) (fun c2 => ?_) (fun c2 => ?_)
    · skip
      refine v_iconst (iI 0) dX11_isPlace_14 rfl ?_
      refine w_ei (bz false) rfl ?_
      exact v_iret dX11_isPlace_15 bz_ret (Nat.le_of_ble_eq_true rfl) (Nat.le_of_ble_eq_true rfl) ⟨by rw [decide_eq_false (by omega)], rfl, rfl⟩
    · skip
      refine v_iconst (iI 1) dX11_isPlace_10 rfl ?_
      refine v_goto 15 dX11_isPlace_11 (by decide) ?_
      refine w_ei (bz true) rfl ?_
      exact v_iret dX11_isPlace_15 bz_ret (Nat.le_of_ble_eq_true rfl) (Nat.le_of_ble_eq_true rfl) ⟨by rw [decide_eq_true (by omega)], rfl, rfl⟩
set_option maxHeartbeats 8000000 in
set_option maxRecDepth 100000 in
theorem p_isWidth {d n : Nat} {p : Int} {h : zH} (hp : -2147483648 ≤ p ∧ p < 2147483648) :
    zM yX11_isWidth cX11_isWidth 1 (some .boolean) d 0 0 [.int (iI p)] h n (fun r h' n' => r = some (.int (iI (bz (decide (3 ≤ p ∧ p ≤ 32))))) ∧ n' = n ∧ h' = h) := by
  refine zM_of zyX11_isWidth rfl (Nat.le_of_ble_eq_true rfl) (fun X hX => ?_)
  refine v_iload_n dX11_isWidth_0 rfl ?_
  refine v_iconst (iI 3) dX11_isWidth_1 rfl ?_
  refine w_icmp_lt 15 dX11_isWidth_2 (by decide) (by omega) (by decide) (fun c1 => ?_) (fun c1 => ?_)
  · skip
    refine v_iconst (iI 0) dX11_isWidth_15 rfl ?_
    refine w_ei (bz false) rfl ?_
    exact v_iret dX11_isWidth_16 bz_ret (Nat.le_of_ble_eq_true rfl) (Nat.le_of_ble_eq_true rfl) ⟨by rw [decide_eq_false (by omega)], rfl, rfl⟩
  · skip
    refine v_iload_n dX11_isWidth_5 rfl ?_
    refine v_bipush (iI 32) dX11_isWidth_6 rfl ?_
    refine w_icmp_gt 15 dX11_isWidth_8 (by decide) (by omega) (by decide) (fun c2 => ?_) (fun c2 => ?_)
    · skip
      refine v_iconst (iI 0) dX11_isWidth_15 rfl ?_
      refine w_ei (bz false) rfl ?_
      exact v_iret dX11_isWidth_16 bz_ret (Nat.le_of_ble_eq_true rfl) (Nat.le_of_ble_eq_true rfl) ⟨by rw [decide_eq_false (by omega)], rfl, rfl⟩
    · skip
      refine v_iconst (iI 1) dX11_isWidth_11 rfl ?_
      refine v_goto 16 dX11_isWidth_12 (by decide) ?_
      refine w_ei (bz true) rfl ?_
      exact v_iret dX11_isWidth_16 bz_ret (Nat.le_of_ble_eq_true rfl) (Nat.le_of_ble_eq_true rfl) ⟨by rw [decide_eq_true (by omega)], rfl, rfl⟩
set_option maxHeartbeats 8000000 in
set_option maxRecDepth 100000 in
theorem p_isQuire {d n : Nat} {p : Int} {h : zH} (hp : -2147483648 ≤ p ∧ p < 2147483648) :
    zM yX11_isQuire cX11_isQuire 1 (some .boolean) d 0 0 [.int (iI p)] h n (fun r h' n' => r = some (.int (iI (bz (decide (0 ≤ p ∧ p < 4))))) ∧ n' = n ∧ h' = h) := by
  refine zM_of zyX11_isQuire rfl (Nat.le_of_ble_eq_true rfl) (fun X hX => ?_)
  refine v_iload_n dX11_isQuire_0 rfl ?_
  refine w_if_lt 13 dX11_isQuire_1 (by decide) (by omega) (fun c1 => ?_) (fun c1 => ?_)
  · skip
    refine v_iconst (iI 0) dX11_isQuire_13 rfl ?_
    refine w_ei (bz false) rfl ?_
    exact v_iret dX11_isQuire_14 bz_ret (Nat.le_of_ble_eq_true rfl) (Nat.le_of_ble_eq_true rfl) ⟨by rw [decide_eq_false (by omega)], rfl, rfl⟩
  · skip
    refine v_iload_n dX11_isQuire_4 rfl ?_
    refine v_iconst (iI 4) dX11_isQuire_5 rfl ?_
    refine w_icmp_ge 13 dX11_isQuire_6 (by decide) (by omega) (by decide) (fun c2 => ?_) (fun c2 => ?_)
    · skip
      refine v_iconst (iI 0) dX11_isQuire_13 rfl ?_
      refine w_ei (bz false) rfl ?_
      exact v_iret dX11_isQuire_14 bz_ret (Nat.le_of_ble_eq_true rfl) (Nat.le_of_ble_eq_true rfl) ⟨by rw [decide_eq_false (by omega)], rfl, rfl⟩
    · skip
      refine v_iconst (iI 1) dX11_isQuire_9 rfl ?_
      refine v_goto 14 dX11_isQuire_10 (by decide) ?_
      refine w_ei (bz true) rfl ?_
      exact v_iret dX11_isQuire_14 bz_ret (Nat.le_of_ble_eq_true rfl) (Nat.le_of_ble_eq_true rfl) ⟨by rw [decide_eq_true (by omega)], rfl, rfl⟩
set_option maxHeartbeats 8000000 in
set_option maxRecDepth 100000 in
theorem p_goes {d n : Nat} {b1 b2 : Bool} {vs vm ve sg e rt th tp wr at9 sz dg pw tn fm : Int} {h : zH} (h_47 : h 47 = oModel vs vm ve sg e rt th tp wr at9 sz dg pw tn fm) :
    zM yX11_goes cX11_goes 3 (some .boolean) d 0 0 [.ref 47, .int (iI (bz b1)), .int (iI (bz b2))] h n (fun r h' n' => r = some (.int (iI (bz (b1 && b2)))) ∧ n' = n ∧ h' 47 = oModel vs vm ve sg e rt (cond b1 (cond b2 0 2) 1) tp wr at9 sz dg pw tn fm ∧ zFr [47] h h') := by
  refine zM_of zyX11_goes rfl (Nat.le_of_ble_eq_true rfl) (fun X hX => ?_)
  have fr : zFr [47] h h := zFr.rf
  refine v_aload_n dX11_goes_0 rfl ?_
  refine v_iload_n dX11_goes_1 rfl ?_
  refine w_ifb_ne 9 dX11_goes_2 (by decide) (fun c1 => ?_) (fun c1 => ?_)
  · skip
    refine v_iload_n dX11_goes_9 rfl ?_
    refine w_ifb_ne 17 dX11_goes_10 (by decide) (fun c2 => ?_) (fun c2 => ?_)
    · skip
      refine v_iconst (iI 0) dX11_goes_17 rfl ?_
      refine v_put (fs' := [.int (iI vs), .long (jL vm), .int (iI ve), .ref 48, .ref 49, .int (iI sg), .ref 50, .ref 52, .int (iI e), .int (iI rt), .ref 54, .ref 56, .ref 58, .ref 59, .ref 62, .ref 64, .int (iI 0), .ref 66, .int (iI tp), .ref 67, .int (iI wr), .int (iI at9), .int (iI sz), .int (iI dg), .int (iI pw), .ref 68, .ref 69, .ref 71, .int (iI tn), .ref 73, .int (iI fm), .ref 74, .ref 76]) fX11_162 dX11_goes_18 h_47 (by decide) (Nat.le_of_ble_eq_true rfl) rfl rfl rfl (fun H1 eH1 => ?_)
      have h_47 : H1 47 = oModel vs vm ve sg e rt 0 tp wr at9 sz dg pw tn fm := zf_same eH1
      have fr := fr.put eH1 (by simp)
      refine v_aload_n dX11_goes_21 rfl ?_
      refine v_get fX11_162 dX11_goes_22 h_47 (by decide) rfl ?_
      refine w_if_ne 32 dX11_goes_25 (by decide) (by decide) (fun c3 => ?_) (fun c3 => ?_)
      · exact absurd rfl c3
      · skip
        refine v_iconst (iI 1) dX11_goes_28 rfl ?_
        refine v_goto 33 dX11_goes_29 (by decide) ?_
        refine w_ei (bz true) rfl ?_
        exact v_iret dX11_goes_33 bz_ret (Nat.le_of_ble_eq_true rfl) (Nat.le_of_ble_eq_true rfl) ⟨by rw [c1, c2]; rfl, rfl, by rw [c1, c2]; exact h_47, fr⟩
    · skip
      refine v_iconst (iI 2) dX11_goes_13 rfl ?_
      refine v_goto 18 dX11_goes_14 (by decide) ?_
      refine v_put (fs' := [.int (iI vs), .long (jL vm), .int (iI ve), .ref 48, .ref 49, .int (iI sg), .ref 50, .ref 52, .int (iI e), .int (iI rt), .ref 54, .ref 56, .ref 58, .ref 59, .ref 62, .ref 64, .int (iI 2), .ref 66, .int (iI tp), .ref 67, .int (iI wr), .int (iI at9), .int (iI sz), .int (iI dg), .int (iI pw), .ref 68, .ref 69, .ref 71, .int (iI tn), .ref 73, .int (iI fm), .ref 74, .ref 76]) fX11_162 dX11_goes_18 h_47 (by decide) (Nat.le_of_ble_eq_true rfl) rfl rfl rfl (fun H1 eH1 => ?_)
      have h_47 : H1 47 = oModel vs vm ve sg e rt 2 tp wr at9 sz dg pw tn fm := zf_same eH1
      have fr := fr.put eH1 (by simp)
      refine v_aload_n dX11_goes_21 rfl ?_
      refine v_get fX11_162 dX11_goes_22 h_47 (by decide) rfl ?_
      refine w_if_ne 32 dX11_goes_25 (by decide) (by decide) (fun c3 => ?_) (fun c3 => ?_)
      · skip
        refine v_iconst (iI 0) dX11_goes_32 rfl ?_
        refine w_ei (bz false) rfl ?_
        exact v_iret dX11_goes_33 bz_ret (Nat.le_of_ble_eq_true rfl) (Nat.le_of_ble_eq_true rfl) ⟨by rw [c1, c2]; rfl, rfl, by rw [c1, c2]; exact h_47, fr⟩
      · exact absurd c3 (by decide)
  · skip
    refine v_iconst (iI 1) dX11_goes_5 rfl ?_
    refine v_goto 18 dX11_goes_6 (by decide) ?_
    refine v_put (fs' := [.int (iI vs), .long (jL vm), .int (iI ve), .ref 48, .ref 49, .int (iI sg), .ref 50, .ref 52, .int (iI e), .int (iI rt), .ref 54, .ref 56, .ref 58, .ref 59, .ref 62, .ref 64, .int (iI 1), .ref 66, .int (iI tp), .ref 67, .int (iI wr), .int (iI at9), .int (iI sz), .int (iI dg), .int (iI pw), .ref 68, .ref 69, .ref 71, .int (iI tn), .ref 73, .int (iI fm), .ref 74, .ref 76]) fX11_162 dX11_goes_18 h_47 (by decide) (Nat.le_of_ble_eq_true rfl) rfl rfl rfl (fun H1 eH1 => ?_)
    have h_47 : H1 47 = oModel vs vm ve sg e rt 1 tp wr at9 sz dg pw tn fm := zf_same eH1
    have fr := fr.put eH1 (by simp)
    refine v_aload_n dX11_goes_21 rfl ?_
    refine v_get fX11_162 dX11_goes_22 h_47 (by decide) rfl ?_
    refine w_if_ne 32 dX11_goes_25 (by decide) (by decide) (fun c3 => ?_) (fun c3 => ?_)
    · skip
      refine v_iconst (iI 0) dX11_goes_32 rfl ?_
      refine w_ei (bz false) rfl ?_
      exact v_iret dX11_goes_33 bz_ret (Nat.le_of_ble_eq_true rfl) (Nat.le_of_ble_eq_true rfl) ⟨by rw [c1]; rfl, rfl, by rw [c1]; exact h_47, fr⟩
    · exact absurd c3 (by decide)
