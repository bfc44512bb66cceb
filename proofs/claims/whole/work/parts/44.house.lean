/-! The House: valid calls -/
set_option maxHeartbeats 8000000 in
set_option maxRecDepth 100000 in
theorem p_Hadd {d n tc a1 a2 a3 : Nat} {wd pt tf : Nat → Nat} {Q : Nat → Int} {qn : Nat → Bool} {L : List Nat} {h : zH} (hH : HD h wd pt Q qn tf tc L) (hPL : PL wd pt) (h1 : a1 < 32) (h2 : a2 < 32) (h3 : a3 < 32) (hd : 8 ≤ d) :
    zM yX8_add cX8_add 4 none d 0 0 [.ref 0, .int (iI (a1:Nat)), .int (iI (a2:Nat)), .int (iI (a3:Nat))] h n (fun r9 h' n' => r9 = none ∧ n' = n ∧ HD h' wd (zup pt a3 (mjn wd pt a1 a2 a3 1)) Q qn tf tc L ∧ zFr HOL h h') := by
  obtain ⟨h_0, h_1, h_2, h_3, hQ, ⟨hp12, hp13, hp14⟩, hA, hT, hG⟩ := id hH
  have w1 := hPL a1 h1
  have w2 := hPL a2 h2
  have w3 := hPL a3 h3
  refine zM_of zyX8_add rfl (Nat.le_of_ble_eq_true rfl) (fun X hX => ?_)
  have fr : zFr HOL h h := zFr.rf
  refine v_aload_n dX8_add_0 rfl ?_
  refine v_iload_n dX8_add_1 rfl ?_
  refine v_iload_n dX8_add_2 rfl ?_
  refine v_iload_n dX8_add_3 rfl ?_
  refine v_cV (av := [.int (iI (a1:Nat)), .int (iI (a2:Nat)), .int (iI (a3:Nat))]) (st := []) zyX8_loadBoth lX8_111 h_0 rfl (p_loadBoth (d := 7) hH hPL h1 h2 h3 (by decide)) dX8_add_4 rfl rfl (Nat.le_of_ble_eq_true rfl) (by omega) (Nat.le_of_ble_eq_true rfl) (Nat.le_of_ble_eq_true rfl) (Or.inl (fun _ _ _ q => ZN q)) (fun r9 G1 n9 q9 => ?_)
  obtain ⟨rfl, q9n, ⟨s1, x1, s2, x2, po1, d1, po2, d2⟩, fr9⟩ := q9
  have q9n := q9n.symm
  subst q9n
  have h_0 := (fr9 0 (by decide)).trans h_0
  have h_1 := (fr9 1 (by decide)).trans h_1
  have h_2 := (fr9 2 (by decide)).trans h_2
  have h_3 := (fr9 3 (by decide)).trans h_3
  have hQ := hQ.fr fr9 (by decide)
  have hp14 := hp14.fr fr9 (by decide)
  have hA := hA.fr fr9 (by decide)
  have hT := hT.fr fr9 (by decide)
  have hG := hG.fr fr9 (by decide)
  have fr := fr.tr fr9 (by decide)
  have hp12 : IP G1 12 := ⟨_, _, _, _, po1.1⟩
  have hp13 : IP G1 13 := ⟨_, _, _, _, po2.1⟩
  refine v_aload_n dX8_add_7 rfl ?_
  refine v_get fX8_13 dX8_add_8 h_0 (by decide) rfl ?_
  refine v_iload_n dX8_add_11 rfl ?_
  refine v_aload_n dX8_add_12 rfl ?_
  refine v_get fX8_40 dX8_add_13 h_0 (by decide) rfl ?_
  refine v_aload_n dX8_add_16 rfl ?_
  refine v_get fX8_27 dX8_add_17 h_0 (by decide) rfl ?_
  refine v_aload_n dX8_add_20 rfl ?_
  refine v_get fX8_31 dX8_add_21 h_0 (by decide) rfl ?_
  refine v_iconst (iI 0) dX8_add_24 rfl ?_
  refine w_ei (bz false) rfl ?_
  refine v_aload_n dX8_add_25 rfl ?_
  refine v_get fX8_9 dX8_add_26 h_0 (by decide) rfl ?_
  refine v_iload_n dX8_add_29 rfl ?_
  refine w_nald dX8_add_30 h_1 a3 (by omega) (by omega) (by decide) ?_
  obtain ⟨h_15, -⟩ := id hA
  refine v_cV (av := [.ref 12, .ref 13, .int (iI (bz false)), .int (iI (wd a3 : Nat))]) (st := [.int (iI (a3:Nat)), .ref 2]) zyX0_sumOf lX8_115 h_15 rfl (p_sumOf (d := 7) (mi := false) hA po1 po2 (by decide) (by omega)) dX8_add_31 rfl rfl (Nat.le_of_ble_eq_true rfl) (by omega) (Nat.le_of_ble_eq_true rfl) (Nat.le_of_ble_eq_true rfl) (Or.inl (fun _ _ _ q => ZN q)) (fun r9 G3 n9 q9 => ?_)
  obtain ⟨rfl, q9n, hA, fr7⟩ := q9
  have q9n := q9n.symm
  subst q9n
  have h_0 := (fr7 0 (by decide)).trans h_0
  have h_1 := (fr7 1 (by decide)).trans h_1
  have h_2 := (fr7 2 (by decide)).trans h_2
  have h_3 := (fr7 3 (by decide)).trans h_3
  have hQ := hQ.fr fr7 (by decide)
  have hp12 := hp12.fr fr7 (by decide)
  have hp13 := hp13.fr fr7 (by decide)
  have hp14 := hp14.fr fr7 (by decide)
  have hT := hT.fr fr7 (by decide)
  have hG := hG.fr fr7 (by decide)
  have fr := fr.tr fr7 (by decide)
  refine w_el ((mjn wd pt a1 a2 a3 1) : Nat) (congrArg Nat.cast (e_ad false ⟨w3.1, w3.2.1⟩ ⟨w1.1, w1.2.1⟩ w1.2.2 d1 ⟨w2.1, w2.2.1⟩ w2.2.2 d2)) ?_
  refine w_mast dX8_add_34 h_2 a3 (by omega) (by omega) (by decide) (mjn wd pt a1 a2 a3 1) rfl (fun H1 eH1 => ?_)
  obtain ⟨F1, eF1⟩ : ∃ zz9, zz9 = zup pt a3 (mjn wd pt a1 a2 a3 1) := ⟨_, rfl⟩
  rw [← eF1] at eH1
  have h_2 : H1 2 = aM 32 F1 := zf_same eH1
  have h_0 := (zf_ne eH1 (by decide)).trans h_0
  have h_1 := (zf_ne eH1 (by decide)).trans h_1
  have fr := fr.put eH1 (by simp)
  have fz : zFr [2] G3 H1 := zFr.put zFr.rf eH1 (by simp)
  have h_3 := (fz 3 (by decide)).trans h_3
  have hQ := hQ.fr fz (by decide)
  have hp12 := hp12.fr fz (by decide)
  have hp13 := hp13.fr fz (by decide)
  have hp14 := hp14.fr fz (by decide)
  have hA := hA.fr fz (by decide)
  have hT := hT.fr fz (by decide)
  have hG := hG.fr fz (by decide)
  rw [eF1] at h_2
  exact v_vret dX8_add_35 trivial (Nat.le_of_ble_eq_true rfl) (Nat.le_of_ble_eq_true rfl) ⟨rfl, rfl, ⟨h_0, h_1, h_2, h_3, hQ, ⟨hp12, hp13, hp14⟩, hA, hT, hG⟩, fr⟩
set_option maxHeartbeats 8000000 in
set_option maxRecDepth 100000 in
theorem p_Hless {d n tc a1 a2 a3 : Nat} {wd pt tf : Nat → Nat} {Q : Nat → Int} {qn : Nat → Bool} {L : List Nat} {h : zH} (hH : HD h wd pt Q qn tf tc L) (hPL : PL wd pt) (h1 : a1 < 32) (h2 : a2 < 32) (h3 : a3 < 32) (hd : 8 ≤ d) :
    zM yX8_less cX8_less 4 none d 0 0 [.ref 0, .int (iI (a1:Nat)), .int (iI (a2:Nat)), .int (iI (a3:Nat))] h n (fun r9 h' n' => r9 = none ∧ n' = n ∧ HD h' wd (zup pt a3 (mjn wd pt a1 a2 a3 (-1))) Q qn tf tc L ∧ zFr HOL h h') := by
  obtain ⟨h_0, h_1, h_2, h_3, hQ, ⟨hp12, hp13, hp14⟩, hA, hT, hG⟩ := id hH
  have w1 := hPL a1 h1
  have w2 := hPL a2 h2
  have w3 := hPL a3 h3
  refine zM_of zyX8_less rfl (Nat.le_of_ble_eq_true rfl) (fun X hX => ?_)
  have fr : zFr HOL h h := zFr.rf
  refine v_aload_n dX8_less_0 rfl ?_
  refine v_iload_n dX8_less_1 rfl ?_
  refine v_iload_n dX8_less_2 rfl ?_
  refine v_iload_n dX8_less_3 rfl ?_
  refine v_cV (av := [.int (iI (a1:Nat)), .int (iI (a2:Nat)), .int (iI (a3:Nat))]) (st := []) zyX8_loadBoth lX8_111 h_0 rfl (p_loadBoth (d := 7) hH hPL h1 h2 h3 (by decide)) dX8_less_4 rfl rfl (Nat.le_of_ble_eq_true rfl) (by omega) (Nat.le_of_ble_eq_true rfl) (Nat.le_of_ble_eq_true rfl) (Or.inl (fun _ _ _ q => ZN q)) (fun r9 G1 n9 q9 => ?_)
  obtain ⟨rfl, q9n, ⟨s1, x1, s2, x2, po1, d1, po2, d2⟩, fr9⟩ := q9
  have q9n := q9n.symm
  subst q9n
  have h_0 := (fr9 0 (by decide)).trans h_0
  have h_1 := (fr9 1 (by decide)).trans h_1
  have h_2 := (fr9 2 (by decide)).trans h_2
  have h_3 := (fr9 3 (by decide)).trans h_3
  have hQ := hQ.fr fr9 (by decide)
  have hp14 := hp14.fr fr9 (by decide)
  have hA := hA.fr fr9 (by decide)
  have hT := hT.fr fr9 (by decide)
  have hG := hG.fr fr9 (by decide)
  have fr := fr.tr fr9 (by decide)
  have hp12 : IP G1 12 := ⟨_, _, _, _, po1.1⟩
  have hp13 : IP G1 13 := ⟨_, _, _, _, po2.1⟩
  refine v_aload_n dX8_less_7 rfl ?_
  refine v_get fX8_13 dX8_less_8 h_0 (by decide) rfl ?_
  refine v_iload_n dX8_less_11 rfl ?_
  refine v_aload_n dX8_less_12 rfl ?_
  refine v_get fX8_40 dX8_less_13 h_0 (by decide) rfl ?_
  refine v_aload_n dX8_less_16 rfl ?_
  refine v_get fX8_27 dX8_less_17 h_0 (by decide) rfl ?_
  refine v_aload_n dX8_less_20 rfl ?_
  refine v_get fX8_31 dX8_less_21 h_0 (by decide) rfl ?_
  refine v_iconst (iI 1) dX8_less_24 rfl ?_
  refine w_ei (bz true) rfl ?_
  refine v_aload_n dX8_less_25 rfl ?_
  refine v_get fX8_9 dX8_less_26 h_0 (by decide) rfl ?_
  refine v_iload_n dX8_less_29 rfl ?_
  refine w_nald dX8_less_30 h_1 a3 (by omega) (by omega) (by decide) ?_
  obtain ⟨h_15, -⟩ := id hA
  refine v_cV (av := [.ref 12, .ref 13, .int (iI (bz true)), .int (iI (wd a3 : Nat))]) (st := [.int (iI (a3:Nat)), .ref 2]) zyX0_sumOf lX8_115 h_15 rfl (p_sumOf (d := 7) (mi := true) hA po1 po2 (by decide) (by omega)) dX8_less_31 rfl rfl (Nat.le_of_ble_eq_true rfl) (by omega) (Nat.le_of_ble_eq_true rfl) (Nat.le_of_ble_eq_true rfl) (Or.inl (fun _ _ _ q => ZN q)) (fun r9 G3 n9 q9 => ?_)
  obtain ⟨rfl, q9n, hA, fr7⟩ := q9
  have q9n := q9n.symm
  subst q9n
  have h_0 := (fr7 0 (by decide)).trans h_0
  have h_1 := (fr7 1 (by decide)).trans h_1
  have h_2 := (fr7 2 (by decide)).trans h_2
  have h_3 := (fr7 3 (by decide)).trans h_3
  have hQ := hQ.fr fr7 (by decide)
  have hp12 := hp12.fr fr7 (by decide)
  have hp13 := hp13.fr fr7 (by decide)
  have hp14 := hp14.fr fr7 (by decide)
  have hT := hT.fr fr7 (by decide)
  have hG := hG.fr fr7 (by decide)
  have fr := fr.tr fr7 (by decide)
  refine w_el ((mjn wd pt a1 a2 a3 (-1)) : Nat) (congrArg Nat.cast (e_ad true ⟨w3.1, w3.2.1⟩ ⟨w1.1, w1.2.1⟩ w1.2.2 d1 ⟨w2.1, w2.2.1⟩ w2.2.2 d2)) ?_
  refine w_mast dX8_less_34 h_2 a3 (by omega) (by omega) (by decide) (mjn wd pt a1 a2 a3 (-1)) rfl (fun H1 eH1 => ?_)
  obtain ⟨F1, eF1⟩ : ∃ zz9, zz9 = zup pt a3 (mjn wd pt a1 a2 a3 (-1)) := ⟨_, rfl⟩
  rw [← eF1] at eH1
  have h_2 : H1 2 = aM 32 F1 := zf_same eH1
  have h_0 := (zf_ne eH1 (by decide)).trans h_0
  have h_1 := (zf_ne eH1 (by decide)).trans h_1
  have fr := fr.put eH1 (by simp)
  have fz : zFr [2] G3 H1 := zFr.put zFr.rf eH1 (by simp)
  have h_3 := (fz 3 (by decide)).trans h_3
  have hQ := hQ.fr fz (by decide)
  have hp12 := hp12.fr fz (by decide)
  have hp13 := hp13.fr fz (by decide)
  have hp14 := hp14.fr fz (by decide)
  have hA := hA.fr fz (by decide)
  have hT := hT.fr fz (by decide)
  have hG := hG.fr fz (by decide)
  rw [eF1] at h_2
  exact v_vret dX8_less_35 trivial (Nat.le_of_ble_eq_true rfl) (Nat.le_of_ble_eq_true rfl) ⟨rfl, rfl, ⟨h_0, h_1, h_2, h_3, hQ, ⟨hp12, hp13, hp14⟩, hA, hT, hG⟩, fr⟩
set_option maxHeartbeats 8000000 in
set_option maxRecDepth 100000 in
theorem p_Htimes {d n tc a1 a2 a3 : Nat} {wd pt tf : Nat → Nat} {Q : Nat → Int} {qn : Nat → Bool} {L : List Nat} {h : zH} (hH : HD h wd pt Q qn tf tc L) (hPL : PL wd pt) (h1 : a1 < 32) (h2 : a2 < 32) (h3 : a3 < 32) (hd : 8 ≤ d) :
    zM yX8_times cX8_times 4 none d 0 0 [.ref 0, .int (iI (a1:Nat)), .int (iI (a2:Nat)), .int (iI (a3:Nat))] h n (fun r9 h' n' => r9 = none ∧ n' = n ∧ HD h' wd (zup pt a3 (mtm wd pt a1 a2 a3)) Q qn tf tc L ∧ zFr HOL h h') := by
  obtain ⟨h_0, h_1, h_2, h_3, hQ, ⟨hp12, hp13, hp14⟩, hA, hT, hG⟩ := id hH
  have w1 := hPL a1 h1
  have w2 := hPL a2 h2
  have w3 := hPL a3 h3
  refine zM_of zyX8_times rfl (Nat.le_of_ble_eq_true rfl) (fun X hX => ?_)
  have fr : zFr HOL h h := zFr.rf
  refine v_aload_n dX8_times_0 rfl ?_
  refine v_iload_n dX8_times_1 rfl ?_
  refine v_iload_n dX8_times_2 rfl ?_
  refine v_iload_n dX8_times_3 rfl ?_
  refine v_cV (av := [.int (iI (a1:Nat)), .int (iI (a2:Nat)), .int (iI (a3:Nat))]) (st := []) zyX8_loadBoth lX8_111 h_0 rfl (p_loadBoth (d := 7) hH hPL h1 h2 h3 (by decide)) dX8_times_4 rfl rfl (Nat.le_of_ble_eq_true rfl) (by omega) (Nat.le_of_ble_eq_true rfl) (Nat.le_of_ble_eq_true rfl) (Or.inl (fun _ _ _ q => ZN q)) (fun r9 G1 n9 q9 => ?_)
  obtain ⟨rfl, q9n, ⟨s1, x1, s2, x2, po1, d1, po2, d2⟩, fr9⟩ := q9
  have q9n := q9n.symm
  subst q9n
  have h_0 := (fr9 0 (by decide)).trans h_0
  have h_1 := (fr9 1 (by decide)).trans h_1
  have h_2 := (fr9 2 (by decide)).trans h_2
  have h_3 := (fr9 3 (by decide)).trans h_3
  have hQ := hQ.fr fr9 (by decide)
  have hp14 := hp14.fr fr9 (by decide)
  have hA := hA.fr fr9 (by decide)
  have hT := hT.fr fr9 (by decide)
  have hG := hG.fr fr9 (by decide)
  have fr := fr.tr fr9 (by decide)
  have hp12 : IP G1 12 := ⟨_, _, _, _, po1.1⟩
  have hp13 : IP G1 13 := ⟨_, _, _, _, po2.1⟩
  refine v_aload_n dX8_times_7 rfl ?_
  refine v_get fX8_13 dX8_times_8 h_0 (by decide) rfl ?_
  refine v_iload_n dX8_times_11 rfl ?_
  refine v_aload_n dX8_times_12 rfl ?_
  refine v_get fX8_40 dX8_times_13 h_0 (by decide) rfl ?_
  refine v_aload_n dX8_times_16 rfl ?_
  refine v_get fX8_27 dX8_times_17 h_0 (by decide) rfl ?_
  refine v_aload_n dX8_times_20 rfl ?_
  refine v_get fX8_31 dX8_times_21 h_0 (by decide) rfl ?_
  refine v_aload_n dX8_times_24 rfl ?_
  refine v_get fX8_9 dX8_times_25 h_0 (by decide) rfl ?_
  refine v_iload_n dX8_times_28 rfl ?_
  refine w_nald dX8_times_29 h_1 a3 (by omega) (by omega) (by decide) ?_
  obtain ⟨h_15, -⟩ := id hA
  refine v_cV (av := [.ref 12, .ref 13, .int (iI (wd a3 : Nat))]) (st := [.int (iI (a3:Nat)), .ref 2]) zyX0_productOf lX8_119 h_15 rfl (p_productOf (d := 7) po1 po2 (by decide) (by omega)) dX8_times_30 rfl rfl (Nat.le_of_ble_eq_true rfl) (by omega) (Nat.le_of_ble_eq_true rfl) (Nat.le_of_ble_eq_true rfl) (Or.inl (fun _ _ _ q => ZN q)) (fun r9 K1 n9 q9 => ?_)
  obtain ⟨rfl, q9n, q9h⟩ := q9
  have q9n := q9n.symm
  subst q9n
  have q9h := q9h.symm
  subst q9h
  refine w_el ((mtm wd pt a1 a2 a3) : Nat) (congrArg Nat.cast (e_tm ⟨w3.1, w3.2.1⟩ ⟨w1.1, w1.2.1⟩ w1.2.2 d1 ⟨w2.1, w2.2.1⟩ w2.2.2 d2)) ?_
  refine w_mast dX8_times_33 h_2 a3 (by omega) (by omega) (by decide) (mtm wd pt a1 a2 a3) rfl (fun H1 eH1 => ?_)
  obtain ⟨F1, eF1⟩ : ∃ zz9, zz9 = zup pt a3 (mtm wd pt a1 a2 a3) := ⟨_, rfl⟩
  rw [← eF1] at eH1
  have h_2 : H1 2 = aM 32 F1 := zf_same eH1
  have h_0 := (zf_ne eH1 (by decide)).trans h_0
  have h_1 := (zf_ne eH1 (by decide)).trans h_1
  have fr := fr.put eH1 (by simp)
  have fz : zFr [2] G1 H1 := zFr.put zFr.rf eH1 (by simp)
  have h_3 := (fz 3 (by decide)).trans h_3
  have hQ := hQ.fr fz (by decide)
  have hp12 := hp12.fr fz (by decide)
  have hp13 := hp13.fr fz (by decide)
  have hp14 := hp14.fr fz (by decide)
  have hA := hA.fr fz (by decide)
  have hT := hT.fr fz (by decide)
  have hG := hG.fr fz (by decide)
  rw [eF1] at h_2
  exact v_vret dX8_times_34 trivial (Nat.le_of_ble_eq_true rfl) (Nat.le_of_ble_eq_true rfl) ⟨rfl, rfl, ⟨h_0, h_1, h_2, h_3, hQ, ⟨hp12, hp13, hp14⟩, hA, hT, hG⟩, fr⟩
set_option maxHeartbeats 8000000 in
set_option maxRecDepth 100000 in
theorem p_Hover {d n tc a1 a2 a3 : Nat} {wd pt tf : Nat → Nat} {Q : Nat → Int} {qn : Nat → Bool} {L : List Nat} {h : zH} (hH : HD h wd pt Q qn tf tc L) (hPL : PL wd pt) (h1 : a1 < 32) (h2 : a2 < 32) (h3 : a3 < 32) (hd : 8 ≤ d) :
    zM yX8_over cX8_over 4 none d 0 0 [.ref 0, .int (iI (a1:Nat)), .int (iI (a2:Nat)), .int (iI (a3:Nat))] h n (fun r9 h' n' => r9 = none ∧ n' = n ∧ HD h' wd (zup pt a3 (mov wd pt a1 a2 a3)) Q qn tf tc L ∧ zFr HOL h h') := by
  obtain ⟨h_0, h_1, h_2, h_3, hQ, ⟨hp12, hp13, hp14⟩, hA, hT, hG⟩ := id hH
  have w1 := hPL a1 h1
  have w2 := hPL a2 h2
  have w3 := hPL a3 h3
  refine zM_of zyX8_over rfl (Nat.le_of_ble_eq_true rfl) (fun X hX => ?_)
  have fr : zFr HOL h h := zFr.rf
  refine v_aload_n dX8_over_0 rfl ?_
  refine v_iload_n dX8_over_1 rfl ?_
  refine v_iload_n dX8_over_2 rfl ?_
  refine v_iload_n dX8_over_3 rfl ?_
  refine v_cV (av := [.int (iI (a1:Nat)), .int (iI (a2:Nat)), .int (iI (a3:Nat))]) (st := []) zyX8_loadBoth lX8_111 h_0 rfl (p_loadBoth (d := 7) hH hPL h1 h2 h3 (by decide)) dX8_over_4 rfl rfl (Nat.le_of_ble_eq_true rfl) (by omega) (Nat.le_of_ble_eq_true rfl) (Nat.le_of_ble_eq_true rfl) (Or.inl (fun _ _ _ q => ZN q)) (fun r9 G1 n9 q9 => ?_)
  obtain ⟨rfl, q9n, ⟨s1, x1, s2, x2, po1, d1, po2, d2⟩, fr9⟩ := q9
  have q9n := q9n.symm
  subst q9n
  have h_0 := (fr9 0 (by decide)).trans h_0
  have h_1 := (fr9 1 (by decide)).trans h_1
  have h_2 := (fr9 2 (by decide)).trans h_2
  have h_3 := (fr9 3 (by decide)).trans h_3
  have hQ := hQ.fr fr9 (by decide)
  have hp14 := hp14.fr fr9 (by decide)
  have hA := hA.fr fr9 (by decide)
  have hT := hT.fr fr9 (by decide)
  have hG := hG.fr fr9 (by decide)
  have fr := fr.tr fr9 (by decide)
  have hp12 : IP G1 12 := ⟨_, _, _, _, po1.1⟩
  have hp13 : IP G1 13 := ⟨_, _, _, _, po2.1⟩
  refine v_aload_n dX8_over_7 rfl ?_
  refine v_get fX8_13 dX8_over_8 h_0 (by decide) rfl ?_
  refine v_iload_n dX8_over_11 rfl ?_
  refine v_aload_n dX8_over_12 rfl ?_
  refine v_get fX8_40 dX8_over_13 h_0 (by decide) rfl ?_
  refine v_aload_n dX8_over_16 rfl ?_
  refine v_get fX8_27 dX8_over_17 h_0 (by decide) rfl ?_
  refine v_aload_n dX8_over_20 rfl ?_
  refine v_get fX8_31 dX8_over_21 h_0 (by decide) rfl ?_
  refine v_aload_n dX8_over_24 rfl ?_
  refine v_get fX8_9 dX8_over_25 h_0 (by decide) rfl ?_
  refine v_iload_n dX8_over_28 rfl ?_
  refine w_nald dX8_over_29 h_1 a3 (by omega) (by omega) (by decide) ?_
  obtain ⟨h_15, -⟩ := id hA
  refine v_cV (av := [.ref 12, .ref 13, .int (iI (wd a3 : Nat))]) (st := [.int (iI (a3:Nat)), .ref 2]) zyX0_quotientOf lX8_123 h_15 rfl (p_quotientOf (d := 7) hA po1 po2 (by decide) (by omega)) dX8_over_30 rfl rfl (Nat.le_of_ble_eq_true rfl) (by omega) (Nat.le_of_ble_eq_true rfl) (Nat.le_of_ble_eq_true rfl) (Or.inl (fun _ _ _ q => ZN q)) (fun r9 G3 n9 q9 => ?_)
  obtain ⟨rfl, q9n, hA, fr7⟩ := q9
  have q9n := q9n.symm
  subst q9n
  have h_0 := (fr7 0 (by decide)).trans h_0
  have h_1 := (fr7 1 (by decide)).trans h_1
  have h_2 := (fr7 2 (by decide)).trans h_2
  have h_3 := (fr7 3 (by decide)).trans h_3
  have hQ := hQ.fr fr7 (by decide)
  have hp12 := hp12.fr fr7 (by decide)
  have hp13 := hp13.fr fr7 (by decide)
  have hp14 := hp14.fr fr7 (by decide)
  have hT := hT.fr fr7 (by decide)
  have hG := hG.fr fr7 (by decide)
  have fr := fr.tr fr7 (by decide)
  refine w_el ((mov wd pt a1 a2 a3) : Nat) (congrArg Nat.cast (e_ov ⟨w3.1, w3.2.1⟩ ⟨w1.1, w1.2.1⟩ w1.2.2 d1 ⟨w2.1, w2.2.1⟩ w2.2.2 d2)) ?_
  refine w_mast dX8_over_33 h_2 a3 (by omega) (by omega) (by decide) (mov wd pt a1 a2 a3) rfl (fun H1 eH1 => ?_)
  obtain ⟨F1, eF1⟩ : ∃ zz9, zz9 = zup pt a3 (mov wd pt a1 a2 a3) := ⟨_, rfl⟩
  rw [← eF1] at eH1
  have h_2 : H1 2 = aM 32 F1 := zf_same eH1
  have h_0 := (zf_ne eH1 (by decide)).trans h_0
  have h_1 := (zf_ne eH1 (by decide)).trans h_1
  have fr := fr.put eH1 (by simp)
  have fz : zFr [2] G3 H1 := zFr.put zFr.rf eH1 (by simp)
  have h_3 := (fz 3 (by decide)).trans h_3
  have hQ := hQ.fr fz (by decide)
  have hp12 := hp12.fr fz (by decide)
  have hp13 := hp13.fr fz (by decide)
  have hp14 := hp14.fr fz (by decide)
  have hA := hA.fr fz (by decide)
  have hT := hT.fr fz (by decide)
  have hG := hG.fr fz (by decide)
  rw [eF1] at h_2
  exact v_vret dX8_over_34 trivial (Nat.le_of_ble_eq_true rfl) (Nat.le_of_ble_eq_true rfl) ⟨rfl, rfl, ⟨h_0, h_1, h_2, h_3, hQ, ⟨hp12, hp13, hp14⟩, hA, hT, hG⟩, fr⟩
set_option maxHeartbeats 8000000 in
set_option maxRecDepth 100000 in
theorem p_Hfused {d n tc a1 a2 a3 : Nat} {wd pt tf : Nat → Nat} {Q : Nat → Int} {qn : Nat → Bool} {L : List Nat} {h : zH} (hH : HD h wd pt Q qn tf tc L) (hPL : PL wd pt) (h1 : a1 < 32) (h2 : a2 < 32) (h3 : a3 < 32) (hd : 8 ≤ d) :
    zM yX8_fused cX8_fused 4 none d 0 0 [.ref 0, .int (iI (a1:Nat)), .int (iI (a2:Nat)), .int (iI (a3:Nat))] h n (fun r9 h' n' => r9 = none ∧ n' = n ∧ HD h' wd (zup pt a3 (mfu wd pt a1 a2 a3)) Q qn tf tc L ∧ zFr HOL h h') := by
  obtain ⟨h_0, h_1, h_2, h_3, hQ, ⟨hp12, hp13, hp14⟩, hA, hT, hG⟩ := id hH
  have w1 := hPL a1 h1
  have w2 := hPL a2 h2
  have w3 := hPL a3 h3
  refine zM_of zyX8_fused rfl (Nat.le_of_ble_eq_true rfl) (fun X hX => ?_)
  have fr : zFr HOL h h := zFr.rf
  refine v_aload_n dX8_fused_0 rfl ?_
  refine v_iload_n dX8_fused_1 rfl ?_
  refine v_iload_n dX8_fused_2 rfl ?_
  refine v_iload_n dX8_fused_3 rfl ?_
  refine v_cV (av := [.int (iI (a1:Nat)), .int (iI (a2:Nat)), .int (iI (a3:Nat))]) (st := []) zyX8_loadBoth lX8_111 h_0 rfl (p_loadBoth (d := 7) hH hPL h1 h2 h3 (by decide)) dX8_fused_4 rfl rfl (Nat.le_of_ble_eq_true rfl) (by omega) (Nat.le_of_ble_eq_true rfl) (Nat.le_of_ble_eq_true rfl) (Or.inl (fun _ _ _ q => ZN q)) (fun r9 G1 n9 q9 => ?_)
  obtain ⟨rfl, q9n, ⟨s1, x1, s2, x2, po1, d1, po2, d2⟩, fr9⟩ := q9
  have q9n := q9n.symm
  subst q9n
  have h_0 := (fr9 0 (by decide)).trans h_0
  have h_1 := (fr9 1 (by decide)).trans h_1
  have h_2 := (fr9 2 (by decide)).trans h_2
  have h_3 := (fr9 3 (by decide)).trans h_3
  have hQ := hQ.fr fr9 (by decide)
  have hp14 := hp14.fr fr9 (by decide)
  have hA := hA.fr fr9 (by decide)
  have hT := hT.fr fr9 (by decide)
  have hG := hG.fr fr9 (by decide)
  have fr := fr.tr fr9 (by decide)
  have hp12 : IP G1 12 := ⟨_, _, _, _, po1.1⟩
  have hp13 : IP G1 13 := ⟨_, _, _, _, po2.1⟩
  refine v_aload_n dX8_fused_7 rfl ?_
  refine v_get fX8_34 dX8_fused_8 h_0 (by decide) rfl ?_
  refine v_aload_n dX8_fused_11 rfl ?_
  refine v_get fX8_13 dX8_fused_12 h_0 (by decide) rfl ?_
  refine v_iload_n dX8_fused_15 rfl ?_
  refine w_mald dX8_fused_16 h_2 a3 (by omega) (by omega) (by decide) ?_
  refine v_aload_n dX8_fused_17 rfl ?_
  refine v_get fX8_9 dX8_fused_18 h_0 (by decide) rfl ?_
  refine v_iload_n dX8_fused_21 rfl ?_
  refine w_nald dX8_fused_22 h_1 a3 (by omega) (by omega) (by decide) ?_
  obtain ⟨na4, mi4, s4, x4, h_14⟩ := hp14
  refine v_cV (av := [.long (jL (pt a3 : Nat)), .int (iI (wd a3 : Nat))]) (st := []) zyX2_load lX8_71 h_14 rfl (p_load (d := 7) h_14 (by decide) (by omega) w3.2.2) dX8_fused_23 rfl rfl (Nat.le_of_ble_eq_true rfl) (by omega) (Nat.le_of_ble_eq_true rfl) (Nat.le_of_ble_eq_true rfl) (Or.inl (fun _ _ _ q => ZN q)) (fun r9 G2 n9 q9 => ?_)
  obtain ⟨rfl, q9n, ⟨s3, x3, h_14, d3⟩, fr8⟩ := q9
  have q9n := q9n.symm
  subst q9n
  have h_0 := (fr8 0 (by decide)).trans h_0
  have h_1 := (fr8 1 (by decide)).trans h_1
  have h_2 := (fr8 2 (by decide)).trans h_2
  have h_3 := (fr8 3 (by decide)).trans h_3
  have hQ := hQ.fr fr8 (by decide)
  have hp12 := hp12.fr fr8 (by decide)
  have hp13 := hp13.fr fr8 (by decide)
  have hA := hA.fr fr8 (by decide)
  have hT := hT.fr fr8 (by decide)
  have hG := hG.fr fr8 (by decide)
  have fr := fr.tr fr8 (by decide)
  have hp14 : IP G2 14 := ⟨_, _, _, _, h_14⟩
  have b3 := pd_b ⟨w3.1, w3.2.1⟩ w3.2.2 d3
  have po1 := (fr8 12 (by decide)).trans po1.1
  have po2 := (fr8 13 (by decide)).trans po2.1
  have c1 := pd_b ⟨w1.1, w1.2.1⟩ w1.2.2 d1
  have c2 := pd_b ⟨w2.1, w2.2.1⟩ w2.2.2 d2
  refine v_aload_n dX8_fused_26 rfl ?_
  refine v_get fX8_13 dX8_fused_27 h_0 (by decide) rfl ?_
  refine v_iload_n dX8_fused_30 rfl ?_
  refine v_aload_n dX8_fused_31 rfl ?_
  refine v_get fX8_40 dX8_fused_32 h_0 (by decide) rfl ?_
  refine v_aload_n dX8_fused_35 rfl ?_
  refine v_get fX8_27 dX8_fused_36 h_0 (by decide) rfl ?_
  refine v_aload_n dX8_fused_39 rfl ?_
  refine v_get fX8_31 dX8_fused_40 h_0 (by decide) rfl ?_
  refine v_aload_n dX8_fused_43 rfl ?_
  refine v_get fX8_34 dX8_fused_44 h_0 (by decide) rfl ?_
  refine v_aload_n dX8_fused_47 rfl ?_
  refine v_get fX8_9 dX8_fused_48 h_0 (by decide) rfl ?_
  refine v_iload_n dX8_fused_51 rfl ?_
  refine w_nald dX8_fused_52 h_1 a3 (by omega) (by omega) (by decide) ?_
  obtain ⟨h_15, -⟩ := id hA
  refine v_cV (av := [.ref 12, .ref 13, .ref 14, .int (iI (wd a3 : Nat))]) (st := [.int (iI (a3:Nat)), .ref 2]) zyX0_fusedOf lX8_126 h_15 rfl (p_fusedOf (d := 7) hA ⟨po1, c1.1, c1.2⟩ ⟨po2, c2.1, c2.2⟩ ⟨h_14, b3.1, b3.2⟩ (by decide) (by omega)) dX8_fused_53 rfl rfl (Nat.le_of_ble_eq_true rfl) (by omega) (Nat.le_of_ble_eq_true rfl) (Nat.le_of_ble_eq_true rfl) (Or.inl (fun _ _ _ q => ZN q)) (fun r9 G3 n9 q9 => ?_)
  obtain ⟨rfl, q9n, hA, fr7⟩ := q9
  have q9n := q9n.symm
  subst q9n
  have h_0 := (fr7 0 (by decide)).trans h_0
  have h_1 := (fr7 1 (by decide)).trans h_1
  have h_2 := (fr7 2 (by decide)).trans h_2
  have h_3 := (fr7 3 (by decide)).trans h_3
  have hQ := hQ.fr fr7 (by decide)
  have hp12 := hp12.fr fr7 (by decide)
  have hp13 := hp13.fr fr7 (by decide)
  have hp14 := hp14.fr fr7 (by decide)
  have hT := hT.fr fr7 (by decide)
  have hG := hG.fr fr7 (by decide)
  have fr := fr.tr fr7 (by decide)
  refine w_el ((mfu wd pt a1 a2 a3) : Nat) (congrArg Nat.cast (e_fu ⟨w3.1, w3.2.1⟩ ⟨w1.1, w1.2.1⟩ w1.2.2 d1 ⟨w2.1, w2.2.1⟩ w2.2.2 d2 ⟨w3.1, w3.2.1⟩ w3.2.2 d3)) ?_
  refine w_mast dX8_fused_56 h_2 a3 (by omega) (by omega) (by decide) (mfu wd pt a1 a2 a3) rfl (fun H1 eH1 => ?_)
  obtain ⟨F1, eF1⟩ : ∃ zz9, zz9 = zup pt a3 (mfu wd pt a1 a2 a3) := ⟨_, rfl⟩
  rw [← eF1] at eH1
  have h_2 : H1 2 = aM 32 F1 := zf_same eH1
  have h_0 := (zf_ne eH1 (by decide)).trans h_0
  have h_1 := (zf_ne eH1 (by decide)).trans h_1
  have fr := fr.put eH1 (by simp)
  have fz : zFr [2] G3 H1 := zFr.put zFr.rf eH1 (by simp)
  have h_3 := (fz 3 (by decide)).trans h_3
  have hQ := hQ.fr fz (by decide)
  have hp12 := hp12.fr fz (by decide)
  have hp13 := hp13.fr fz (by decide)
  have hp14 := hp14.fr fz (by decide)
  have hA := hA.fr fz (by decide)
  have hT := hT.fr fz (by decide)
  have hG := hG.fr fz (by decide)
  rw [eF1] at h_2
  exact v_vret dX8_fused_57 trivial (Nat.le_of_ble_eq_true rfl) (Nat.le_of_ble_eq_true rfl) ⟨rfl, rfl, ⟨h_0, h_1, h_2, h_3, hQ, ⟨hp12, hp13, hp14⟩, hA, hT, hG⟩, fr⟩
theorem sq_b {p w s : Nat} {x : Int} (h1 : 3 ≤ w ∧ w ≤ 32) (hp : p < 2 ^ w) (d1 : pd p w s x) : s * s * 2 ^ (x + x + 240).toNat ≤ 2 ^ 480 := by
  by_cases z : p = 2 ^ (w - 1)
  · unfold pd at d1
    rw [if_pos (Or.inr z)] at d1
    rw [d1.1, Nat.mul_zero, Nat.zero_mul]
    exact Nat.zero_le _
  · have b1 := pd_b h1 hp d1
    have e1 := pv_mul h1 hp z d1 h1 hp z d1 (x + x + 240).toNat (by omega)
    have l1 := pv_pr h1 hp z h1 hp z
    rw [e1, sgnd_abs] at l1
    exact l1
theorem fa_b {p1 w1 s1 p2 w2 s2 : Nat} {x1 x2 : Int} (h1 : 3 ≤ w1 ∧ w1 ≤ 32) (hp1 : p1 < 2 ^ w1) (d1 : pd p1 w1 s1 x1) (h2 : 3 ≤ w2 ∧ w2 ≤ 32) (hp2 : p2 < 2 ^ w2) (d2 : pd p2 w2 s2 x2) : nb (qsz (pl2 false (s1 * s1 * 2 ^ (x1 + x1 + 240).toNat) false (s2 * s2 * 2 ^ (x2 + x2 + 240).toNat))) ≤ 500 := by
  have l1 := sq_b h1 hp1 d1
  have l2 := sq_b h2 hp2 d2
  generalize s1 * s1 * 2 ^ (x1 + x1 + 240).toNat = A at l1 ⊢
  generalize s2 * s2 * 2 ^ (x2 + x2 + 240).toNat = B at l2 ⊢
  have q1 : (sgnd false A).natAbs ≤ 2 ^ 480 := by rw [sgnd_abs]; exact l1
  have q2 : (sgnd false B).natAbs ≤ 2 ^ 480 := by rw [sgnd_abs]; exact l2
  rw [pl2_q, (q512_s (two_480 q1 q2)).2]
  refine Nat.le_trans (nb_le (k := 482) ?_) (by decide)
  have : (2 : Nat) ^ 482 = 2 * (2 * 2 ^ 480) := by rw [pw2 (a := 481) (by decide), pw2 (a := 480) (by decide)]
  have := p_pos 480
  omega
set_option maxHeartbeats 8000000 in
set_option maxRecDepth 100000 in
theorem p_Hfar {d n tc a1 a2 a3 : Nat} {wd pt tf : Nat → Nat} {Q : Nat → Int} {qn : Nat → Bool} {L : List Nat} {h : zH} (hH : HD h wd pt Q qn tf tc L) (hPL : PL wd pt) (h1 : a1 < 32) (h2 : a2 < 32) (h3 : a3 < 32) (hd : 8 ≤ d) :
    zM yX8_far cX8_far 4 none d 0 0 [.ref 0, .int (iI (a1:Nat)), .int (iI (a2:Nat)), .int (iI (a3:Nat))] h n (fun r9 h' n' => r9 = none ∧ n' = n ∧ HD h' wd (zup pt a3 (mfa wd pt a1 a2 a3)) Q qn tf tc L ∧ zFr HOL h h') := by
  obtain ⟨h_0, h_1, h_2, h_3, hQ, ⟨hp12, hp13, hp14⟩, hA, hT, hG⟩ := id hH
  have w1 := hPL a1 h1
  have w2 := hPL a2 h2
  have w3 := hPL a3 h3
  refine zM_of zyX8_far rfl (Nat.le_of_ble_eq_true rfl) (fun X hX => ?_)
  have fr : zFr HOL h h := zFr.rf
  refine v_aload_n dX8_far_0 rfl ?_
  refine v_iload_n dX8_far_1 rfl ?_
  refine v_iload_n dX8_far_2 rfl ?_
  refine v_iload_n dX8_far_3 rfl ?_
  refine v_cV (av := [.int (iI (a1:Nat)), .int (iI (a2:Nat)), .int (iI (a3:Nat))]) (st := []) zyX8_loadBoth lX8_111 h_0 rfl (p_loadBoth (d := 7) hH hPL h1 h2 h3 (by decide)) dX8_far_4 rfl rfl (Nat.le_of_ble_eq_true rfl) (by omega) (Nat.le_of_ble_eq_true rfl) (Nat.le_of_ble_eq_true rfl) (Or.inl (fun _ _ _ q => ZN q)) (fun r9 G1 n9 q9 => ?_)
  obtain ⟨rfl, q9n, ⟨s1, x1, s2, x2, po1, d1, po2, d2⟩, fr9⟩ := q9
  have q9n := q9n.symm
  subst q9n
  have h_0 := (fr9 0 (by decide)).trans h_0
  have h_1 := (fr9 1 (by decide)).trans h_1
  have h_2 := (fr9 2 (by decide)).trans h_2
  have h_3 := (fr9 3 (by decide)).trans h_3
  have hQ := hQ.fr fr9 (by decide)
  have hp14 := hp14.fr fr9 (by decide)
  have hA := hA.fr fr9 (by decide)
  have hT := hT.fr fr9 (by decide)
  have hG := hG.fr fr9 (by decide)
  have fr := fr.tr fr9 (by decide)
  have hp12 : IP G1 12 := ⟨_, _, _, _, po1.1⟩
  have hp13 : IP G1 13 := ⟨_, _, _, _, po2.1⟩
  refine v_aload_n dX8_far_7 rfl ?_
  refine v_get fX8_13 dX8_far_8 h_0 (by decide) rfl ?_
  refine v_iload_n dX8_far_11 rfl ?_
  refine v_aload_n dX8_far_12 rfl ?_
  refine v_get fX8_40 dX8_far_13 h_0 (by decide) rfl ?_
  refine v_aload_n dX8_far_16 rfl ?_
  refine v_get fX8_27 dX8_far_17 h_0 (by decide) rfl ?_
  refine v_aload_n dX8_far_20 rfl ?_
  refine v_get fX8_31 dX8_far_21 h_0 (by decide) rfl ?_
  refine v_aload_n dX8_far_24 rfl ?_
  refine v_get fX8_9 dX8_far_25 h_0 (by decide) rfl ?_
  refine v_iload_n dX8_far_28 rfl ?_
  refine w_nald dX8_far_29 h_1 a3 (by omega) (by omega) (by decide) ?_
  obtain ⟨h_15, -⟩ := id hA
  refine v_cV (av := [.ref 12, .ref 13, .int (iI (wd a3 : Nat))]) (st := [.int (iI (a3:Nat)), .ref 2]) zyX0_distanceOf lX8_142 h_15 rfl (p_distanceOf (d := 7) hA po1 po2 (fa_b ⟨w1.1, w1.2.1⟩ w1.2.2 d1 ⟨w2.1, w2.2.1⟩ w2.2.2 d2) (by decide) (by omega)) dX8_far_30 rfl rfl (Nat.le_of_ble_eq_true rfl) (by omega) (Nat.le_of_ble_eq_true rfl) (Nat.le_of_ble_eq_true rfl) (Or.inl (fun _ _ _ q => ZN q)) (fun r9 G3 n9 q9 => ?_)
  obtain ⟨rfl, q9n, hA, fr7⟩ := q9
  have q9n := q9n.symm
  subst q9n
  have h_0 := (fr7 0 (by decide)).trans h_0
  have h_1 := (fr7 1 (by decide)).trans h_1
  have h_2 := (fr7 2 (by decide)).trans h_2
  have h_3 := (fr7 3 (by decide)).trans h_3
  have hQ := hQ.fr fr7 (by decide)
  have hp12 := hp12.fr fr7 (by decide)
  have hp13 := hp13.fr fr7 (by decide)
  have hp14 := hp14.fr fr7 (by decide)
  have hT := hT.fr fr7 (by decide)
  have hG := hG.fr fr7 (by decide)
  have fr := fr.tr fr7 (by decide)
  refine w_el ((mfa wd pt a1 a2 a3) : Nat) (congrArg Nat.cast (e_fa ⟨w3.1, w3.2.1⟩ ⟨w1.1, w1.2.1⟩ w1.2.2 d1 ⟨w2.1, w2.2.1⟩ w2.2.2 d2)) ?_
  refine w_mast dX8_far_33 h_2 a3 (by omega) (by omega) (by decide) (mfa wd pt a1 a2 a3) rfl (fun H1 eH1 => ?_)
  obtain ⟨F1, eF1⟩ : ∃ zz9, zz9 = zup pt a3 (mfa wd pt a1 a2 a3) := ⟨_, rfl⟩
  rw [← eF1] at eH1
  have h_2 : H1 2 = aM 32 F1 := zf_same eH1
  have h_0 := (zf_ne eH1 (by decide)).trans h_0
  have h_1 := (zf_ne eH1 (by decide)).trans h_1
  have fr := fr.put eH1 (by simp)
  have fz : zFr [2] G3 H1 := zFr.put zFr.rf eH1 (by simp)
  have h_3 := (fz 3 (by decide)).trans h_3
  have hQ := hQ.fr fz (by decide)
  have hp12 := hp12.fr fz (by decide)
  have hp13 := hp13.fr fz (by decide)
  have hp14 := hp14.fr fz (by decide)
  have hA := hA.fr fz (by decide)
  have hT := hT.fr fz (by decide)
  have hG := hG.fr fz (by decide)
  rw [eF1] at h_2
  exact v_vret dX8_far_34 trivial (Nat.le_of_ble_eq_true rfl) (Nat.le_of_ble_eq_true rfl) ⟨rfl, rfl, ⟨h_0, h_1, h_2, h_3, hQ, ⟨hp12, hp13, hp14⟩, hA, hT, hG⟩, fr⟩
set_option maxHeartbeats 8000000 in
set_option maxRecDepth 100000 in
theorem p_Hroot {d n tc a1 a3 k : Nat} {wd pt tf : Nat → Nat} {Q : Nat → Int} {qn : Nat → Bool} {L : List Nat} {h : zH} (hH : HD h wd pt Q qn tf tc L) (hPL : PL wd pt) (h1 : a1 < 32) (hk : 1 ≤ k ∧ k ≤ 8) (h3 : a3 < 32) (hd : 7 ≤ d) :
    zM yX8_root cX8_root 4 none d 0 0 [.ref 0, .int (iI (a1:Nat)), .int (iI (k:Nat)), .int (iI (a3:Nat))] h n (fun r9 h' n' => r9 = none ∧ n' = n ∧ HD h' wd (zup pt a3 (mrt wd pt a1 k a3)) Q qn tf tc L ∧ zFr HOL h h') := by
  obtain ⟨h_0, h_1, h_2, h_3, hQ, ⟨hp12, hp13, hp14⟩, hA, hT, hG⟩ := id hH
  have w1 := hPL a1 h1
  have w3 := hPL a3 h3
  refine zM_of zyX8_root rfl (Nat.le_of_ble_eq_true rfl) (fun X hX => ?_)
  have fr : zFr HOL h h := zFr.rf
  refine v_iload_n dX8_root_0 rfl ?_
  refine v_cS (av := [.int (iI (a1:Nat))]) (st := []) zyX8_checkPlace lX8_58 (p_ckP (d := 6) h1) dX8_root_1 rfl rfl (Nat.le_of_ble_eq_true rfl) (by omega) (Nat.le_of_ble_eq_true rfl) (Nat.le_of_ble_eq_true rfl) (Or.inl (fun _ _ _ q => ZN q)) (fun r9 K1 n9 q9 => ?_)
  obtain ⟨rfl, q9n, q9h⟩ := q9
  have q9n := q9n.symm
  subst q9n
  have q9h := q9h.symm
  subst q9h
  refine v_iload_n dX8_root_4 rfl ?_
  refine v_cS (av := [.int (iI (a3:Nat))]) (st := []) zyX8_checkPlace lX8_58 (p_ckP (d := 6) h3) dX8_root_5 rfl rfl (Nat.le_of_ble_eq_true rfl) (by omega) (Nat.le_of_ble_eq_true rfl) (Nat.le_of_ble_eq_true rfl) (Or.inl (fun _ _ _ q => ZN q)) (fun r9 K2 n9 q9 => ?_)
  obtain ⟨rfl, q9n, q9h⟩ := q9
  have q9n := q9n.symm
  subst q9n
  have q9h := q9h.symm
  subst q9h
  refine v_iload_n dX8_root_8 rfl ?_
  refine v_iconst (iI 1) dX8_root_9 rfl ?_
  refine w_icmp_lt 19 dX8_root_10 (by decide) (by omega) (by decide) (fun c1 => ?_) (fun c1 => ?_)
  · exact absurd c1 (by omega)
  · skip
    refine v_iload_n dX8_root_13 rfl ?_
    refine v_bipush (iI 8) dX8_root_14 rfl ?_
    refine w_icmp_le 29 dX8_root_16 (by decide) (by omega) (by decide) (fun c2 => ?_) (fun c2 => ?_)
    · skip
      refine v_aload_n dX8_root_29 rfl ?_
      refine v_get fX8_27 dX8_root_30 h_0 (by decide) rfl ?_
      refine v_aload_n dX8_root_33 rfl ?_
      refine v_get fX8_13 dX8_root_34 h_0 (by decide) rfl ?_
      refine v_iload_n dX8_root_37 rfl ?_
      refine w_mald dX8_root_38 h_2 a1 (by omega) (by omega) (by decide) ?_
      refine v_aload_n dX8_root_39 rfl ?_
      refine v_get fX8_9 dX8_root_40 h_0 (by decide) rfl ?_
      refine v_iload_n dX8_root_43 rfl ?_
      refine w_nald dX8_root_44 h_1 a1 (by omega) (by omega) (by decide) ?_
      obtain ⟨na2, mi2, s2, x2, h_12⟩ := hp12
      refine v_cV (av := [.long (jL (pt a1 : Nat)), .int (iI (wd a1 : Nat))]) (st := []) zyX2_load lX8_71 h_12 rfl (p_load (d := 6) h_12 (by decide) (by omega) w1.2.2) dX8_root_45 rfl rfl (Nat.le_of_ble_eq_true rfl) (by omega) (Nat.le_of_ble_eq_true rfl) (Nat.le_of_ble_eq_true rfl) (Or.inl (fun _ _ _ q => ZN q)) (fun r9 G1 n9 q9 => ?_)
      obtain ⟨rfl, q9n, ⟨s1, x1, h_12, d1⟩, fr9⟩ := q9
      have q9n := q9n.symm
      subst q9n
      have h_0 := (fr9 0 (by decide)).trans h_0
      have h_1 := (fr9 1 (by decide)).trans h_1
      have h_2 := (fr9 2 (by decide)).trans h_2
      have h_3 := (fr9 3 (by decide)).trans h_3
      have hQ := hQ.fr fr9 (by decide)
      have hp13 := hp13.fr fr9 (by decide)
      have hp14 := hp14.fr fr9 (by decide)
      have hA := hA.fr fr9 (by decide)
      have hT := hT.fr fr9 (by decide)
      have hG := hG.fr fr9 (by decide)
      have fr := fr.tr fr9 (by decide)
      have hp12 : IP G1 12 := ⟨_, _, _, _, h_12⟩
      have b1 := pd_b ⟨w1.1, w1.2.1⟩ w1.2.2 d1
      have po1 : PO G1 12 (decide (pt a1 = 2 ^ (wd a1 - 1))) (decide (2 ^ (wd a1 - 1) < pt a1)) s1 x1 := ⟨h_12, b1.1, b1.2⟩
      refine v_aload_n dX8_root_48 rfl ?_
      refine v_get fX8_13 dX8_root_49 h_0 (by decide) rfl ?_
      refine v_iload_n dX8_root_52 rfl ?_
      refine v_aload_n dX8_root_53 rfl ?_
      refine v_get fX8_40 dX8_root_54 h_0 (by decide) rfl ?_
      refine v_aload_n dX8_root_57 rfl ?_
      refine v_get fX8_27 dX8_root_58 h_0 (by decide) rfl ?_
      refine v_iload_n dX8_root_61 rfl ?_
      refine v_aload_n dX8_root_62 rfl ?_
      refine v_get fX8_9 dX8_root_63 h_0 (by decide) rfl ?_
      refine v_iload_n dX8_root_66 rfl ?_
      refine w_nald dX8_root_67 h_1 a3 (by omega) (by omega) (by decide) ?_
      obtain ⟨h_15, -⟩ := id hA
      refine v_cV (av := [.ref 12, .int (iI (k:Nat)), .int (iI (wd a3 : Nat))]) (st := [.int (iI (a3:Nat)), .ref 2]) zyX0_rootOf lX8_135 h_15 rfl (p_rootOf (d := 6) hA po1 hk (by decide) (by omega)) dX8_root_68 rfl rfl (Nat.le_of_ble_eq_true rfl) (by omega) (Nat.le_of_ble_eq_true rfl) (Nat.le_of_ble_eq_true rfl) (Or.inl (fun _ _ _ q => ZN q)) (fun r9 G3 n9 q9 => ?_)
      obtain ⟨rfl, q9n, hA, fr7⟩ := q9
      have q9n := q9n.symm
      subst q9n
      have h_0 := (fr7 0 (by decide)).trans h_0
      have h_1 := (fr7 1 (by decide)).trans h_1
      have h_2 := (fr7 2 (by decide)).trans h_2
      have h_3 := (fr7 3 (by decide)).trans h_3
      have hQ := hQ.fr fr7 (by decide)
      have hp12 := hp12.fr fr7 (by decide)
      have hp13 := hp13.fr fr7 (by decide)
      have hp14 := hp14.fr fr7 (by decide)
      have hT := hT.fr fr7 (by decide)
      have hG := hG.fr fr7 (by decide)
      have fr := fr.tr fr7 (by decide)
      refine w_el ((mrt wd pt a1 k a3) : Nat) (congrArg Nat.cast (e_rt hk ⟨w3.1, w3.2.1⟩ ⟨w1.1, w1.2.1⟩ w1.2.2 d1)) ?_
      refine w_mast dX8_root_71 h_2 a3 (by omega) (by omega) (by decide) (mrt wd pt a1 k a3) rfl (fun H1 eH1 => ?_)
      obtain ⟨F1, eF1⟩ : ∃ zz9, zz9 = zup pt a3 (mrt wd pt a1 k a3) := ⟨_, rfl⟩
      rw [← eF1] at eH1
      have h_2 : H1 2 = aM 32 F1 := zf_same eH1
      have h_0 := (zf_ne eH1 (by decide)).trans h_0
      have h_1 := (zf_ne eH1 (by decide)).trans h_1
      have fr := fr.put eH1 (by simp)
      have fz : zFr [2] G3 H1 := zFr.put zFr.rf eH1 (by simp)
      have h_3 := (fz 3 (by decide)).trans h_3
      have hQ := hQ.fr fz (by decide)
      have hp12 := hp12.fr fz (by decide)
      have hp13 := hp13.fr fz (by decide)
      have hp14 := hp14.fr fz (by decide)
      have hA := hA.fr fz (by decide)
      have hT := hT.fr fz (by decide)
      have hG := hG.fr fz (by decide)
      rw [eF1] at h_2
      exact v_vret dX8_root_72 trivial (Nat.le_of_ble_eq_true rfl) (Nat.le_of_ble_eq_true rfl) ⟨rfl, rfl, ⟨h_0, h_1, h_2, h_3, hQ, ⟨hp12, hp13, hp14⟩, hA, hT, hG⟩, fr⟩
    · exact absurd c2 (by omega)
set_option maxHeartbeats 8000000 in
set_option maxRecDepth 100000 in
theorem p_Hpower {d n tc a1 a3 : Nat} {wd pt tf : Nat → Nat} {Q : Nat → Int} {qn : Nat → Bool} {L : List Nat} {k9 : Int} {h : zH} (hH : HD h wd pt Q qn tf tc L) (hPL : PL wd pt) (h1 : a1 < 32) (hk : -16 ≤ k9 ∧ k9 ≤ 16) (h3 : a3 < 32) (hd : 7 ≤ d) :
    zM yX8_power cX8_power 4 none d 0 0 [.ref 0, .int (iI (a1:Nat)), .int (iI k9), .int (iI (a3:Nat))] h n (fun r9 h' n' => r9 = none ∧ n' = n ∧ HD h' wd (zup pt a3 (mpw wd pt a1 k9 a3)) Q qn tf tc L ∧ zFr HOL h h') := by
  obtain ⟨h_0, h_1, h_2, h_3, hQ, ⟨hp12, hp13, hp14⟩, hA, hT, hG⟩ := id hH
  have w1 := hPL a1 h1
  have w3 := hPL a3 h3
  refine zM_of zyX8_power rfl (Nat.le_of_ble_eq_true rfl) (fun X hX => ?_)
  have fr : zFr HOL h h := zFr.rf
  refine v_iload_n dX8_power_0 rfl ?_
  refine v_cS (av := [.int (iI (a1:Nat))]) (st := []) zyX8_checkPlace lX8_58 (p_ckP (d := 6) h1) dX8_power_1 rfl rfl (Nat.le_of_ble_eq_true rfl) (by omega) (Nat.le_of_ble_eq_true rfl) (Nat.le_of_ble_eq_true rfl) (Or.inl (fun _ _ _ q => ZN q)) (fun r9 K1 n9 q9 => ?_)
  obtain ⟨rfl, q9n, q9h⟩ := q9
  have q9n := q9n.symm
  subst q9n
  have q9h := q9h.symm
  subst q9h
  refine v_iload_n dX8_power_4 rfl ?_
  refine v_cS (av := [.int (iI (a3:Nat))]) (st := []) zyX8_checkPlace lX8_58 (p_ckP (d := 6) h3) dX8_power_5 rfl rfl (Nat.le_of_ble_eq_true rfl) (by omega) (Nat.le_of_ble_eq_true rfl) (Nat.le_of_ble_eq_true rfl) (Or.inl (fun _ _ _ q => ZN q)) (fun r9 K2 n9 q9 => ?_)
  obtain ⟨rfl, q9n, q9h⟩ := q9
  have q9n := q9n.symm
  subst q9n
  have q9h := q9h.symm
  subst q9h
  refine v_iload_n dX8_power_8 rfl ?_
  refine v_bipush (iI (-16)) dX8_power_9 rfl ?_
  refine w_icmp_lt 20 dX8_power_11 (by decide) (by omega) (by decide) (fun c1 => ?_) (fun c1 => ?_)
  · exact absurd c1 (by omega)
  · skip
    refine v_iload_n dX8_power_14 rfl ?_
    refine v_bipush (iI 16) dX8_power_15 rfl ?_
    refine w_icmp_le 30 dX8_power_17 (by decide) (by omega) (by decide) (fun c2 => ?_) (fun c2 => ?_)
    · skip
      refine v_aload_n dX8_power_30 rfl ?_
      refine v_get fX8_27 dX8_power_31 h_0 (by decide) rfl ?_
      refine v_aload_n dX8_power_34 rfl ?_
      refine v_get fX8_13 dX8_power_35 h_0 (by decide) rfl ?_
      refine v_iload_n dX8_power_38 rfl ?_
      refine w_mald dX8_power_39 h_2 a1 (by omega) (by omega) (by decide) ?_
      refine v_aload_n dX8_power_40 rfl ?_
      refine v_get fX8_9 dX8_power_41 h_0 (by decide) rfl ?_
      refine v_iload_n dX8_power_44 rfl ?_
      refine w_nald dX8_power_45 h_1 a1 (by omega) (by omega) (by decide) ?_
      obtain ⟨na2, mi2, s2, x2, h_12⟩ := hp12
      refine v_cV (av := [.long (jL (pt a1 : Nat)), .int (iI (wd a1 : Nat))]) (st := []) zyX2_load lX8_71 h_12 rfl (p_load (d := 6) h_12 (by decide) (by omega) w1.2.2) dX8_power_46 rfl rfl (Nat.le_of_ble_eq_true rfl) (by omega) (Nat.le_of_ble_eq_true rfl) (Nat.le_of_ble_eq_true rfl) (Or.inl (fun _ _ _ q => ZN q)) (fun r9 G1 n9 q9 => ?_)
      obtain ⟨rfl, q9n, ⟨s1, x1, h_12, d1⟩, fr9⟩ := q9
      have q9n := q9n.symm
      subst q9n
      have h_0 := (fr9 0 (by decide)).trans h_0
      have h_1 := (fr9 1 (by decide)).trans h_1
      have h_2 := (fr9 2 (by decide)).trans h_2
      have h_3 := (fr9 3 (by decide)).trans h_3
      have hQ := hQ.fr fr9 (by decide)
      have hp13 := hp13.fr fr9 (by decide)
      have hp14 := hp14.fr fr9 (by decide)
      have hA := hA.fr fr9 (by decide)
      have hT := hT.fr fr9 (by decide)
      have hG := hG.fr fr9 (by decide)
      have fr := fr.tr fr9 (by decide)
      have hp12 : IP G1 12 := ⟨_, _, _, _, h_12⟩
      have b1 := pd_b ⟨w1.1, w1.2.1⟩ w1.2.2 d1
      have po1 : PO G1 12 (decide (pt a1 = 2 ^ (wd a1 - 1))) (decide (2 ^ (wd a1 - 1) < pt a1)) s1 x1 := ⟨h_12, b1.1, b1.2⟩
      refine v_aload_n dX8_power_49 rfl ?_
      refine v_get fX8_13 dX8_power_50 h_0 (by decide) rfl ?_
      refine v_iload_n dX8_power_53 rfl ?_
      refine v_aload_n dX8_power_54 rfl ?_
      refine v_get fX8_40 dX8_power_55 h_0 (by decide) rfl ?_
      refine v_aload_n dX8_power_58 rfl ?_
      refine v_get fX8_27 dX8_power_59 h_0 (by decide) rfl ?_
      refine v_iload_n dX8_power_62 rfl ?_
      refine v_aload_n dX8_power_63 rfl ?_
      refine v_get fX8_9 dX8_power_64 h_0 (by decide) rfl ?_
      refine v_iload_n dX8_power_67 rfl ?_
      refine w_nald dX8_power_68 h_1 a3 (by omega) (by omega) (by decide) ?_
      obtain ⟨h_15, -⟩ := id hA
      refine v_cV (av := [.ref 12, .int (iI k9), .int (iI (wd a3 : Nat))]) (st := [.int (iI (a3:Nat)), .ref 2]) zyX0_powerOf lX8_147 h_15 rfl (p_powerOf (d := 6) hA po1 hk (by decide) (by omega)) dX8_power_69 rfl rfl (Nat.le_of_ble_eq_true rfl) (by omega) (Nat.le_of_ble_eq_true rfl) (Nat.le_of_ble_eq_true rfl) (Or.inl (fun _ _ _ q => ZN q)) (fun r9 G3 n9 q9 => ?_)
      obtain ⟨rfl, q9n, hA, fr7⟩ := q9
      have q9n := q9n.symm
      subst q9n
      have h_0 := (fr7 0 (by decide)).trans h_0
      have h_1 := (fr7 1 (by decide)).trans h_1
      have h_2 := (fr7 2 (by decide)).trans h_2
      have h_3 := (fr7 3 (by decide)).trans h_3
      have hQ := hQ.fr fr7 (by decide)
      have hp12 := hp12.fr fr7 (by decide)
      have hp13 := hp13.fr fr7 (by decide)
      have hp14 := hp14.fr fr7 (by decide)
      have hT := hT.fr fr7 (by decide)
      have hG := hG.fr fr7 (by decide)
      have fr := fr.tr fr7 (by decide)
      refine w_el ((mpw wd pt a1 k9 a3) : Nat) (congrArg Nat.cast (e_pw hk ⟨w3.1, w3.2.1⟩ ⟨w1.1, w1.2.1⟩ w1.2.2 d1)) ?_
      refine w_mast dX8_power_72 h_2 a3 (by omega) (by omega) (by decide) (mpw wd pt a1 k9 a3) rfl (fun H1 eH1 => ?_)
      obtain ⟨F1, eF1⟩ : ∃ zz9, zz9 = zup pt a3 (mpw wd pt a1 k9 a3) := ⟨_, rfl⟩
      rw [← eF1] at eH1
      have h_2 : H1 2 = aM 32 F1 := zf_same eH1
      have h_0 := (zf_ne eH1 (by decide)).trans h_0
      have h_1 := (zf_ne eH1 (by decide)).trans h_1
      have fr := fr.put eH1 (by simp)
      have fz : zFr [2] G3 H1 := zFr.put zFr.rf eH1 (by simp)
      have h_3 := (fz 3 (by decide)).trans h_3
      have hQ := hQ.fr fz (by decide)
      have hp12 := hp12.fr fz (by decide)
      have hp13 := hp13.fr fz (by decide)
      have hp14 := hp14.fr fz (by decide)
      have hA := hA.fr fz (by decide)
      have hT := hT.fr fz (by decide)
      have hG := hG.fr fz (by decide)
      rw [eF1] at h_2
      exact v_vret dX8_power_73 trivial (Nat.le_of_ble_eq_true rfl) (Nat.le_of_ble_eq_true rfl) ⟨rfl, rfl, ⟨h_0, h_1, h_2, h_3, hQ, ⟨hp12, hp13, hp14⟩, hA, hT, hG⟩, fr⟩
    · exact absurd c2 (by omega)
set_option maxHeartbeats 8000000 in
set_option maxRecDepth 100000 in
theorem p_Hunder {d n tc a1 a3 : Nat} {wd pt tf : Nat → Nat} {Q : Nat → Int} {qn : Nat → Bool} {L : List Nat} {h : zH} (hH : HD h wd pt Q qn tf tc L) (hPL : PL wd pt) (h1 : a1 < 32)  (h3 : a3 < 32) (hd : 7 ≤ d) :
    zM yX8_under cX8_under 3 none d 0 0 [.ref 0, .int (iI (a1:Nat)), .int (iI (a3:Nat))] h n (fun r9 h' n' => r9 = none ∧ n' = n ∧ HD h' wd (zup pt a3 (mun wd pt a1 a3)) Q qn tf tc L ∧ zFr HOL h h') := by
  obtain ⟨h_0, h_1, h_2, h_3, hQ, ⟨hp12, hp13, hp14⟩, hA, hT, hG⟩ := id hH
  have w1 := hPL a1 h1
  have w3 := hPL a3 h3
  refine zM_of zyX8_under rfl (Nat.le_of_ble_eq_true rfl) (fun X hX => ?_)
  have fr : zFr HOL h h := zFr.rf
  refine v_iload_n dX8_under_0 rfl ?_
  refine v_cS (av := [.int (iI (a1:Nat))]) (st := []) zyX8_checkPlace lX8_58 (p_ckP (d := 6) h1) dX8_under_1 rfl rfl (Nat.le_of_ble_eq_true rfl) (by omega) (Nat.le_of_ble_eq_true rfl) (Nat.le_of_ble_eq_true rfl) (Or.inl (fun _ _ _ q => ZN q)) (fun r9 K1 n9 q9 => ?_)
  obtain ⟨rfl, q9n, q9h⟩ := q9
  have q9n := q9n.symm
  subst q9n
  have q9h := q9h.symm
  subst q9h
  refine v_iload_n dX8_under_4 rfl ?_
  refine v_cS (av := [.int (iI (a3:Nat))]) (st := []) zyX8_checkPlace lX8_58 (p_ckP (d := 6) h3) dX8_under_5 rfl rfl (Nat.le_of_ble_eq_true rfl) (by omega) (Nat.le_of_ble_eq_true rfl) (Nat.le_of_ble_eq_true rfl) (Or.inl (fun _ _ _ q => ZN q)) (fun r9 K2 n9 q9 => ?_)
  obtain ⟨rfl, q9n, q9h⟩ := q9
  have q9n := q9n.symm
  subst q9n
  have q9h := q9h.symm
  subst q9h
  refine v_aload_n dX8_under_8 rfl ?_
  refine v_get fX8_27 dX8_under_9 h_0 (by decide) rfl ?_
  refine v_aload_n dX8_under_12 rfl ?_
  refine v_get fX8_13 dX8_under_13 h_0 (by decide) rfl ?_
  refine v_iload_n dX8_under_16 rfl ?_
  refine w_mald dX8_under_17 h_2 a1 (by omega) (by omega) (by decide) ?_
  refine v_aload_n dX8_under_18 rfl ?_
  refine v_get fX8_9 dX8_under_19 h_0 (by decide) rfl ?_
  refine v_iload_n dX8_under_22 rfl ?_
  refine w_nald dX8_under_23 h_1 a1 (by omega) (by omega) (by decide) ?_
  obtain ⟨na2, mi2, s2, x2, h_12⟩ := hp12
  refine v_cV (av := [.long (jL (pt a1 : Nat)), .int (iI (wd a1 : Nat))]) (st := []) zyX2_load lX8_71 h_12 rfl (p_load (d := 6) h_12 (by decide) (by omega) w1.2.2) dX8_under_24 rfl rfl (Nat.le_of_ble_eq_true rfl) (by omega) (Nat.le_of_ble_eq_true rfl) (Nat.le_of_ble_eq_true rfl) (Or.inl (fun _ _ _ q => ZN q)) (fun r9 G1 n9 q9 => ?_)
  obtain ⟨rfl, q9n, ⟨s1, x1, h_12, d1⟩, fr9⟩ := q9
  have q9n := q9n.symm
  subst q9n
  have h_0 := (fr9 0 (by decide)).trans h_0
  have h_1 := (fr9 1 (by decide)).trans h_1
  have h_2 := (fr9 2 (by decide)).trans h_2
  have h_3 := (fr9 3 (by decide)).trans h_3
  have hQ := hQ.fr fr9 (by decide)
  have hp13 := hp13.fr fr9 (by decide)
  have hp14 := hp14.fr fr9 (by decide)
  have hA := hA.fr fr9 (by decide)
  have hT := hT.fr fr9 (by decide)
  have hG := hG.fr fr9 (by decide)
  have fr := fr.tr fr9 (by decide)
  have hp12 : IP G1 12 := ⟨_, _, _, _, h_12⟩
  have b1 := pd_b ⟨w1.1, w1.2.1⟩ w1.2.2 d1
  have po1 : PO G1 12 (decide (pt a1 = 2 ^ (wd a1 - 1))) (decide (2 ^ (wd a1 - 1) < pt a1)) s1 x1 := ⟨h_12, b1.1, b1.2⟩
  refine v_aload_n dX8_under_27 rfl ?_
  refine v_get fX8_13 dX8_under_28 h_0 (by decide) rfl ?_
  refine v_iload_n dX8_under_31 rfl ?_
  refine v_aload_n dX8_under_32 rfl ?_
  refine v_get fX8_40 dX8_under_33 h_0 (by decide) rfl ?_
  refine v_aload_n dX8_under_36 rfl ?_
  refine v_get fX8_27 dX8_under_37 h_0 (by decide) rfl ?_
  refine v_aload_n dX8_under_40 rfl ?_
  refine v_get fX8_9 dX8_under_41 h_0 (by decide) rfl ?_
  refine v_iload_n dX8_under_44 rfl ?_
  refine w_nald dX8_under_45 h_1 a3 (by omega) (by omega) (by decide) ?_
  obtain ⟨h_15, -⟩ := id hA
  refine v_cV (av := [.ref 12, .int (iI (wd a3 : Nat))]) (st := [.int (iI (a3:Nat)), .ref 2]) zyX0_inverseRootOf lX8_139 h_15 rfl (p_inverseRootOf (d := 6) hA po1 (by decide) (by omega)) dX8_under_46 rfl rfl (Nat.le_of_ble_eq_true rfl) (by omega) (Nat.le_of_ble_eq_true rfl) (Nat.le_of_ble_eq_true rfl) (Or.inl (fun _ _ _ q => ZN q)) (fun r9 G3 n9 q9 => ?_)
  obtain ⟨rfl, q9n, hA, fr7⟩ := q9
  have q9n := q9n.symm
  subst q9n
  have h_0 := (fr7 0 (by decide)).trans h_0
  have h_1 := (fr7 1 (by decide)).trans h_1
  have h_2 := (fr7 2 (by decide)).trans h_2
  have h_3 := (fr7 3 (by decide)).trans h_3
  have hQ := hQ.fr fr7 (by decide)
  have hp12 := hp12.fr fr7 (by decide)
  have hp13 := hp13.fr fr7 (by decide)
  have hp14 := hp14.fr fr7 (by decide)
  have hT := hT.fr fr7 (by decide)
  have hG := hG.fr fr7 (by decide)
  have fr := fr.tr fr7 (by decide)
  refine w_el ((mun wd pt a1 a3) : Nat) (congrArg Nat.cast (e_un ⟨w3.1, w3.2.1⟩ ⟨w1.1, w1.2.1⟩ w1.2.2 d1)) ?_
  refine w_mast dX8_under_49 h_2 a3 (by omega) (by omega) (by decide) (mun wd pt a1 a3) rfl (fun H1 eH1 => ?_)
  obtain ⟨F1, eF1⟩ : ∃ zz9, zz9 = zup pt a3 (mun wd pt a1 a3) := ⟨_, rfl⟩
  rw [← eF1] at eH1
  have h_2 : H1 2 = aM 32 F1 := zf_same eH1
  have h_0 := (zf_ne eH1 (by decide)).trans h_0
  have h_1 := (zf_ne eH1 (by decide)).trans h_1
  have fr := fr.put eH1 (by simp)
  have fz : zFr [2] G3 H1 := zFr.put zFr.rf eH1 (by simp)
  have h_3 := (fz 3 (by decide)).trans h_3
  have hQ := hQ.fr fz (by decide)
  have hp12 := hp12.fr fz (by decide)
  have hp13 := hp13.fr fz (by decide)
  have hp14 := hp14.fr fz (by decide)
  have hA := hA.fr fz (by decide)
  have hT := hT.fr fz (by decide)
  have hG := hG.fr fz (by decide)
  rw [eF1] at h_2
  exact v_vret dX8_under_50 trivial (Nat.le_of_ble_eq_true rfl) (Nat.le_of_ble_eq_true rfl) ⟨rfl, rfl, ⟨h_0, h_1, h_2, h_3, hQ, ⟨hp12, hp13, hp14⟩, hA, hT, hG⟩, fr⟩
set_option maxHeartbeats 8000000 in
set_option maxRecDepth 100000 in
theorem p_Htake {d n tc a1 a3 w : Nat} {wd pt tf : Nat → Nat} {Q : Nat → Int} {qn : Nat → Bool} {L : List Nat} {h : zH} (hH : HD h wd pt Q qn tf tc L) (hPL : PL wd pt) (h1 : a1 < 32) (h3 : a3 < 32) (hw : 3 ≤ w ∧ w ≤ 32) (hd : 7 ≤ d) :
    zM yX8_take cX8_take 4 none d 0 0 [.ref 0, .int (iI (a1:Nat)), .int (iI (a3:Nat)), .int (iI (w:Nat))] h n (fun r9 h' n' => r9 = none ∧ n' = n ∧ HD h' (zup wd a3 w) (zup pt a3 (mtk wd pt a1 w)) Q qn tf tc L ∧ zFr HOL h h') := by
  obtain ⟨h_0, h_1, h_2, h_3, hQ, ⟨hp12, hp13, hp14⟩, hA, hT, hG⟩ := id hH
  have w1 := hPL a1 h1
  refine zM_of zyX8_take rfl (Nat.le_of_ble_eq_true rfl) (fun X hX => ?_)
  have fr : zFr HOL h h := zFr.rf
  refine v_iload_n dX8_take_0 rfl ?_
  refine v_cS (av := [.int (iI (a1:Nat))]) (st := []) zyX8_checkPlace lX8_58 (p_ckP (d := 6) h1) dX8_take_1 rfl rfl (Nat.le_of_ble_eq_true rfl) (by omega) (Nat.le_of_ble_eq_true rfl) (Nat.le_of_ble_eq_true rfl) (Or.inl (fun _ _ _ q => ZN q)) (fun r9 K1 n9 q9 => ?_)
  obtain ⟨rfl, q9n, q9h⟩ := q9
  have q9n := q9n.symm
  subst q9n
  have q9h := q9h.symm
  subst q9h
  refine v_iload_n dX8_take_4 rfl ?_
  refine v_cS (av := [.int (iI (a3:Nat))]) (st := []) zyX8_checkPlace lX8_58 (p_ckP (d := 6) h3) dX8_take_5 rfl rfl (Nat.le_of_ble_eq_true rfl) (by omega) (Nat.le_of_ble_eq_true rfl) (Nat.le_of_ble_eq_true rfl) (Or.inl (fun _ _ _ q => ZN q)) (fun r9 K2 n9 q9 => ?_)
  obtain ⟨rfl, q9n, q9h⟩ := q9
  have q9n := q9n.symm
  subst q9n
  have q9h := q9h.symm
  subst q9h
  refine v_iload_n dX8_take_8 rfl ?_
  refine v_cS (av := [.int (iI (w:Nat))]) (st := []) zyX8_checkWidth lX8_62 (p_ckW (d := 6) hw) dX8_take_9 rfl rfl (Nat.le_of_ble_eq_true rfl) (by omega) (Nat.le_of_ble_eq_true rfl) (Nat.le_of_ble_eq_true rfl) (Or.inl (fun _ _ _ q => ZN q)) (fun r9 K3 n9 q9 => ?_)
  obtain ⟨rfl, q9n, q9h⟩ := q9
  have q9n := q9n.symm
  subst q9n
  have q9h := q9h.symm
  subst q9h
  refine v_aload_n dX8_take_12 rfl ?_
  refine v_get fX8_27 dX8_take_13 h_0 (by decide) rfl ?_
  refine v_aload_n dX8_take_16 rfl ?_
  refine v_get fX8_13 dX8_take_17 h_0 (by decide) rfl ?_
  refine v_iload_n dX8_take_20 rfl ?_
  refine w_mald dX8_take_21 h_2 a1 (by omega) (by omega) (by decide) ?_
  refine v_aload_n dX8_take_22 rfl ?_
  refine v_get fX8_9 dX8_take_23 h_0 (by decide) rfl ?_
  refine v_iload_n dX8_take_26 rfl ?_
  refine w_nald dX8_take_27 h_1 a1 (by omega) (by omega) (by decide) ?_
  obtain ⟨na2, mi2, s2, x2, h_12⟩ := hp12
  refine v_cV (av := [.long (jL (pt a1 : Nat)), .int (iI (wd a1 : Nat))]) (st := []) zyX2_load lX8_71 h_12 rfl (p_load (d := 6) h_12 (by decide) (by omega) w1.2.2) dX8_take_28 rfl rfl (Nat.le_of_ble_eq_true rfl) (by omega) (Nat.le_of_ble_eq_true rfl) (Nat.le_of_ble_eq_true rfl) (Or.inl (fun _ _ _ q => ZN q)) (fun r9 G1 n9 q9 => ?_)
  obtain ⟨rfl, q9n, ⟨s1, x1, h_12, d1⟩, fr9⟩ := q9
  have q9n := q9n.symm
  subst q9n
  have h_0 := (fr9 0 (by decide)).trans h_0
  have h_1 := (fr9 1 (by decide)).trans h_1
  have h_2 := (fr9 2 (by decide)).trans h_2
  have h_3 := (fr9 3 (by decide)).trans h_3
  have hQ := hQ.fr fr9 (by decide)
  have hp13 := hp13.fr fr9 (by decide)
  have hp14 := hp14.fr fr9 (by decide)
  have hA := hA.fr fr9 (by decide)
  have hT := hT.fr fr9 (by decide)
  have hG := hG.fr fr9 (by decide)
  have fr := fr.tr fr9 (by decide)
  have hp12 : IP G1 12 := ⟨_, _, _, _, h_12⟩
  have b1 := pd_b ⟨w1.1, w1.2.1⟩ w1.2.2 d1
  have po1 : PO G1 12 (decide (pt a1 = 2 ^ (wd a1 - 1))) (decide (2 ^ (wd a1 - 1) < pt a1)) s1 x1 := ⟨h_12, b1.1, b1.2⟩
  refine v_aload_n dX8_take_31 rfl ?_
  refine v_get fX8_9 dX8_take_32 h_0 (by decide) rfl ?_
  refine v_iload_n dX8_take_35 rfl ?_
  refine v_iload_n dX8_take_36 rfl ?_
  refine w_nast dX8_take_37 h_1 a3 (by omega) (by omega) (by decide) w rfl (fun H1 eH1 => ?_)
  obtain ⟨F1, eF1⟩ : ∃ zz9, zz9 = zup wd a3 w := ⟨_, rfl⟩
  rw [← eF1] at eH1
  have h_1 : H1 1 = aN 32 F1 := zf_same eH1
  have h_0 := (zf_ne eH1 (by decide)).trans h_0
  have h_2 := (zf_ne eH1 (by decide)).trans h_2
  have fr := fr.put eH1 (by simp)
  have fy : zFr [1] G1 H1 := zFr.put zFr.rf eH1 (by simp)
  have h_3 := (fy 3 (by decide)).trans h_3
  have hQ := hQ.fr fy (by decide)
  have hp12 := hp12.fr fy (by decide)
  have hp13 := hp13.fr fy (by decide)
  have hp14 := hp14.fr fy (by decide)
  have hA := hA.fr fy (by decide)
  have hT := hT.fr fy (by decide)
  have hG := hG.fr fy (by decide)
  rw [eF1] at h_1
  have h_12 := (fy 12 (by decide)).trans h_12
  refine v_aload_n dX8_take_38 rfl ?_
  refine v_get fX8_13 dX8_take_39 h_0 (by decide) rfl ?_
  refine v_iload_n dX8_take_42 rfl ?_
  refine v_aload_n dX8_take_43 rfl ?_
  refine v_get fX8_40 dX8_take_44 h_0 (by decide) rfl ?_
  refine v_aload_n dX8_take_47 rfl ?_
  refine v_get fX8_27 dX8_take_48 h_0 (by decide) rfl ?_
  refine v_iload_n dX8_take_51 rfl ?_
  obtain ⟨h_15, -⟩ := id hA
  refine v_cV (av := [.ref 12, .int (iI (w:Nat))]) (st := [.int (iI (a3:Nat)), .ref 2]) zyX0_same lX8_75 h_15 rfl (p_same (d := 6) ⟨h_12, b1.1, b1.2⟩ (by decide) hw) dX8_take_52 rfl rfl (Nat.le_of_ble_eq_true rfl) (by omega) (Nat.le_of_ble_eq_true rfl) (Nat.le_of_ble_eq_true rfl) (Or.inl (fun _ _ _ q => ZN q)) (fun r9 K4 n9 q9 => ?_)
  obtain ⟨rfl, q9n, q9h⟩ := q9
  have q9n := q9n.symm
  subst q9n
  have q9h := q9h.symm
  subst q9h
  refine w_el (mtk wd pt a1 w : Nat) (congrArg Nat.cast (e_tk hw ⟨w1.1, w1.2.1⟩ w1.2.2 d1)) ?_
  refine w_mast dX8_take_55 h_2 a3 (by omega) (by omega) (by decide) (mtk wd pt a1 w) rfl (fun H2 eH2 => ?_)
  obtain ⟨F2, eF2⟩ : ∃ zz9, zz9 = zup pt a3 (mtk wd pt a1 w) := ⟨_, rfl⟩
  rw [← eF2] at eH2
  have h_2 : H2 2 = aM 32 F2 := zf_same eH2
  have h_0 := (zf_ne eH2 (by decide)).trans h_0
  have h_1 := (zf_ne eH2 (by decide)).trans h_1
  have fr := fr.put eH2 (by simp)
  have fz : zFr [2] H1 H2 := zFr.put zFr.rf eH2 (by simp)
  have h_3 := (fz 3 (by decide)).trans h_3
  have hQ := hQ.fr fz (by decide)
  have hp12 := hp12.fr fz (by decide)
  have hp13 := hp13.fr fz (by decide)
  have hp14 := hp14.fr fz (by decide)
  have hA := hA.fr fz (by decide)
  have hT := hT.fr fz (by decide)
  have hG := hG.fr fz (by decide)
  rw [eF2] at h_2
  exact v_vret dX8_take_56 trivial (Nat.le_of_ble_eq_true rfl) (Nat.le_of_ble_eq_true rfl) ⟨rfl, rfl, ⟨h_0, h_1, h_2, h_3, hQ, ⟨hp12, hp13, hp14⟩, hA, hT, hG⟩, fr⟩
set_option maxHeartbeats 8000000 in
set_option maxRecDepth 100000 in
theorem p_Hratio {d n tc a3 : Nat} {wd pt tf : Nat → Nat} {Q : Nat → Int} {qn : Nat → Bool} {L : List Nat} {x y : Int} {h : zH} (hH : HD h wd pt Q qn tf tc L) (hPL : PL wd pt) (h3 : a3 < 32) (hx : -9223372036854775808 ≤ x ∧ x < 9223372036854775808) (hy : -9223372036854775808 ≤ y ∧ y < 9223372036854775808) (hd : 7 ≤ d) :
    zM yX8_ratio cX8_ratio 6 none d 0 0 [.ref 0, .int (iI (a3:Nat)), .long (jL x), .long (jL y)] h n (fun r9 h' n' => r9 = none ∧ n' = n ∧ HD h' wd (zup pt a3 (mra wd a3 x y)) Q qn tf tc L ∧ zFr HOL h h') := by
  obtain ⟨h_0, h_1, h_2, h_3, hQ, ⟨hp12, hp13, hp14⟩, hA, hT, hG⟩ := id hH
  have w3 := hPL a3 h3
  refine zM_of zyX8_ratio rfl (Nat.le_of_ble_eq_true rfl) (fun X hX => ?_)
  have fr : zFr HOL h h := zFr.rf
  refine v_iload_n dX8_ratio_0 rfl ?_
  refine v_cS (av := [.int (iI (a3:Nat))]) (st := []) zyX8_checkPlace lX8_58 (p_ckP (d := 6) h3) dX8_ratio_1 rfl rfl (Nat.le_of_ble_eq_true rfl) (by omega) (Nat.le_of_ble_eq_true rfl) (Nat.le_of_ble_eq_true rfl) (Or.inl (fun _ _ _ q => ZN q)) (fun r9 K1 n9 q9 => ?_)
  obtain ⟨rfl, q9n, q9h⟩ := q9
  have q9n := q9n.symm
  subst q9n
  have q9h := q9h.symm
  subst q9h
  refine v_aload_n dX8_ratio_4 rfl ?_
  refine v_get fX8_13 dX8_ratio_5 h_0 (by decide) rfl ?_
  refine v_iload_n dX8_ratio_8 rfl ?_
  refine v_aload_n dX8_ratio_9 rfl ?_
  refine v_get fX8_40 dX8_ratio_10 h_0 (by decide) rfl ?_
  refine v_lload_n dX8_ratio_13 rfl ?_
  refine v_lload dX8_ratio_14 rfl ?_
  refine v_aload_n dX8_ratio_16 rfl ?_
  refine v_get fX8_9 dX8_ratio_17 h_0 (by decide) rfl ?_
  refine v_iload_n dX8_ratio_20 rfl ?_
  refine w_nald dX8_ratio_21 h_1 a3 (by omega) (by omega) (by decide) ?_
  obtain ⟨h_15, -⟩ := id hA
  refine v_cV (av := [.long (jL x), .long (jL y), .int (iI (wd a3 : Nat))]) (st := [.int (iI (a3:Nat)), .ref 2]) zyX0_ratioOf lX8_79 h_15 rfl (p_ratioOf (d := 6) hA hx hy (by decide) (by omega)) dX8_ratio_22 rfl rfl (Nat.le_of_ble_eq_true rfl) (by omega) (Nat.le_of_ble_eq_true rfl) (Nat.le_of_ble_eq_true rfl) (Or.inl (fun _ _ _ q => ZN q)) (fun r9 G3 n9 q9 => ?_)
  obtain ⟨rfl, q9n, hA, fr7⟩ := q9
  have q9n := q9n.symm
  subst q9n
  have h_0 := (fr7 0 (by decide)).trans h_0
  have h_1 := (fr7 1 (by decide)).trans h_1
  have h_2 := (fr7 2 (by decide)).trans h_2
  have h_3 := (fr7 3 (by decide)).trans h_3
  have hQ := hQ.fr fr7 (by decide)
  have hp12 := hp12.fr fr7 (by decide)
  have hp13 := hp13.fr fr7 (by decide)
  have hp14 := hp14.fr fr7 (by decide)
  have hT := hT.fr fr7 (by decide)
  have hG := hG.fr fr7 (by decide)
  have fr := fr.tr fr7 (by decide)
  refine w_el ((mra wd a3 x y) : Nat) (congrArg Nat.cast (e_ra ⟨w3.1, w3.2.1⟩)) ?_
  refine w_mast dX8_ratio_25 h_2 a3 (by omega) (by omega) (by decide) (mra wd a3 x y) rfl (fun H1 eH1 => ?_)
  obtain ⟨F1, eF1⟩ : ∃ zz9, zz9 = zup pt a3 (mra wd a3 x y) := ⟨_, rfl⟩
  rw [← eF1] at eH1
  have h_2 : H1 2 = aM 32 F1 := zf_same eH1
  have h_0 := (zf_ne eH1 (by decide)).trans h_0
  have h_1 := (zf_ne eH1 (by decide)).trans h_1
  have fr := fr.put eH1 (by simp)
  have fz : zFr [2] G3 H1 := zFr.put zFr.rf eH1 (by simp)
  have h_3 := (fz 3 (by decide)).trans h_3
  have hQ := hQ.fr fz (by decide)
  have hp12 := hp12.fr fz (by decide)
  have hp13 := hp13.fr fz (by decide)
  have hp14 := hp14.fr fz (by decide)
  have hA := hA.fr fz (by decide)
  have hT := hT.fr fz (by decide)
  have hG := hG.fr fz (by decide)
  rw [eF1] at h_2
  exact v_vret dX8_ratio_26 trivial (Nat.le_of_ble_eq_true rfl) (Nat.le_of_ble_eq_true rfl) ⟨rfl, rfl, ⟨h_0, h_1, h_2, h_3, hQ, ⟨hp12, hp13, hp14⟩, hA, hT, hG⟩, fr⟩
set_option maxHeartbeats 8000000 in
set_option maxRecDepth 100000 in
theorem p_Hset {d n tc a3 w : Nat} {wd pt tf : Nat → Nat} {Q : Nat → Int} {qn : Nat → Bool} {L : List Nat} {b9 : Int} {h : zH} (hH : HD h wd pt Q qn tf tc L) (h3 : a3 < 32) (hw : 3 ≤ w ∧ w ≤ 32) (hb : -2147483648 ≤ b9 ∧ b9 < 2147483648) (hd : 7 ≤ d) :
    zM yX8_set cX8_set 4 none d 0 0 [.ref 0, .int (iI (a3:Nat)), .int (iI (w:Nat)), .int (iI b9)] h n (fun r9 h' n' => r9 = none ∧ n' = n ∧ HD h' (zup wd a3 w) (zup pt a3 (b9 % (2 ^ w : Nat)).toNat) Q qn tf tc L ∧ zFr HOL h h') := by
  obtain ⟨h_0, h_1, h_2, h_3, hQ, ⟨hp12, hp13, hp14⟩, hA, hT, hG⟩ := id hH
  refine zM_of zyX8_set rfl (Nat.le_of_ble_eq_true rfl) (fun X hX => ?_)
  have fr : zFr HOL h h := zFr.rf
  refine v_iload_n dX8_set_0 rfl ?_
  refine v_cS (av := [.int (iI (a3:Nat))]) (st := []) zyX8_checkPlace lX8_58 (p_ckP (d := 6) h3) dX8_set_1 rfl rfl (Nat.le_of_ble_eq_true rfl) (by omega) (Nat.le_of_ble_eq_true rfl) (Nat.le_of_ble_eq_true rfl) (Or.inl (fun _ _ _ q => ZN q)) (fun r9 K1 n9 q9 => ?_)
  obtain ⟨rfl, q9n, q9h⟩ := q9
  have q9n := q9n.symm
  subst q9n
  have q9h := q9h.symm
  subst q9h
  refine v_iload_n dX8_set_4 rfl ?_
  refine v_cS (av := [.int (iI (w:Nat))]) (st := []) zyX8_checkWidth lX8_62 (p_ckW (d := 6) hw) dX8_set_5 rfl rfl (Nat.le_of_ble_eq_true rfl) (by omega) (Nat.le_of_ble_eq_true rfl) (Nat.le_of_ble_eq_true rfl) (Or.inl (fun _ _ _ q => ZN q)) (fun r9 K2 n9 q9 => ?_)
  obtain ⟨rfl, q9n, q9h⟩ := q9
  have q9n := q9n.symm
  subst q9n
  have q9h := q9h.symm
  subst q9h
  refine v_aload_n dX8_set_8 rfl ?_
  refine v_get fX8_9 dX8_set_9 h_0 (by decide) rfl ?_
  refine v_iload_n dX8_set_12 rfl ?_
  refine v_iload_n dX8_set_13 rfl ?_
  refine w_nast dX8_set_14 h_1 a3 (by omega) (by omega) (by decide) w rfl (fun H1 eH1 => ?_)
  obtain ⟨F1, eF1⟩ : ∃ zz9, zz9 = zup wd a3 w := ⟨_, rfl⟩
  rw [← eF1] at eH1
  have h_1 : H1 1 = aN 32 F1 := zf_same eH1
  have h_0 := (zf_ne eH1 (by decide)).trans h_0
  have h_2 := (zf_ne eH1 (by decide)).trans h_2
  have fr := fr.put eH1 (by simp)
  have fy : zFr [1] h H1 := zFr.put zFr.rf eH1 (by simp)
  have h_3 := (fy 3 (by decide)).trans h_3
  have hQ := hQ.fr fy (by decide)
  have hp12 := hp12.fr fy (by decide)
  have hp13 := hp13.fr fy (by decide)
  have hp14 := hp14.fr fy (by decide)
  have hA := hA.fr fy (by decide)
  have hT := hT.fr fy (by decide)
  have hG := hG.fr fy (by decide)
  rw [eF1] at h_1
  refine v_aload_n dX8_set_15 rfl ?_
  refine v_get fX8_13 dX8_set_16 h_0 (by decide) rfl ?_
  refine v_iload_n dX8_set_19 rfl ?_
  refine v_iload_n dX8_set_20 rfl ?_
  refine w_i2l dX8_set_21 (by omega) ?_
  refine v_iload_n dX8_set_22 rfl ?_
  refine v_cS (av := [.int (iI (w:Nat))]) (st := [.long (jL b9), .int (iI (a3:Nat)), .ref 2]) zyX4_greatest lX8_65 (p_greatest (d := 6) (by omega)) dX8_set_23 rfl rfl (Nat.le_of_ble_eq_true rfl) (by omega) (Nat.le_of_ble_eq_true rfl) (Nat.le_of_ble_eq_true rfl) (Or.inl (fun _ _ _ q => ZN q)) (fun r9 K3 n9 q9 => ?_)
  obtain ⟨rfl, q9n, q9h⟩ := q9
  have q9n := q9n.symm
  subst q9n
  have q9h := q9h.symm
  subst q9h
  refine w_landm dX8_set_26 w (2 ^ w) rfl (by omega) (by rw [Int.natCast_sub (p_pos w), ipw]; rfl) ?_
  refine w_mast dX8_set_27 h_2 a3 (by omega) (by omega) (by decide) ((b9 % (2 ^ w : Nat)).toNat) (by rw [← ipw]; have := Int.emod_nonneg b9 (b := ((2 ^ w : Nat) : Int)) (by have := p_pos w; omega); omega) (fun H2 eH2 => ?_)
  obtain ⟨F2, eF2⟩ : ∃ zz9, zz9 = zup pt a3 ((b9 % (2 ^ w : Nat)).toNat) := ⟨_, rfl⟩
  rw [← eF2] at eH2
  have h_2 : H2 2 = aM 32 F2 := zf_same eH2
  have h_0 := (zf_ne eH2 (by decide)).trans h_0
  have h_1 := (zf_ne eH2 (by decide)).trans h_1
  have fr := fr.put eH2 (by simp)
  have fz : zFr [2] H1 H2 := zFr.put zFr.rf eH2 (by simp)
  have h_3 := (fz 3 (by decide)).trans h_3
  have hQ := hQ.fr fz (by decide)
  have hp12 := hp12.fr fz (by decide)
  have hp13 := hp13.fr fz (by decide)
  have hp14 := hp14.fr fz (by decide)
  have hA := hA.fr fz (by decide)
  have hT := hT.fr fz (by decide)
  have hG := hG.fr fz (by decide)
  rw [eF2] at h_2
  exact v_vret dX8_set_28 trivial (Nat.le_of_ble_eq_true rfl) (Nat.le_of_ble_eq_true rfl) ⟨rfl, rfl, ⟨h_0, h_1, h_2, h_3, hQ, ⟨hp12, hp13, hp14⟩, hA, hT, hG⟩, fr⟩
set_option maxHeartbeats 8000000 in
set_option maxRecDepth 100000 in
theorem p_Hpattern {d n tc a1 : Nat} {wd pt tf : Nat → Nat} {Q : Nat → Int} {qn : Nat → Bool} {L : List Nat} {h : zH} (hH : HD h wd pt Q qn tf tc L) (h1 : a1 < 32) (hd : 7 ≤ d) :
    zM yX8_pattern cX8_pattern 2 (some .long) d 0 0 [.ref 0, .int (iI (a1:Nat))] h n (fun r9 h' n' => r9 = some (.long (jL (pt a1 : Nat))) ∧ n' = n ∧ HD h' wd pt Q qn tf tc L ∧ zFr HOL h h') := by
  obtain ⟨h_0, h_1, h_2, h_3, hQ, ⟨hp12, hp13, hp14⟩, hA, hT, hG⟩ := id hH
  refine zM_of zyX8_pattern rfl (Nat.le_of_ble_eq_true rfl) (fun X hX => ?_)
  have fr : zFr HOL h h := zFr.rf
  refine v_iload_n dX8_pattern_0 rfl ?_
  refine v_cS (av := [.int (iI (a1:Nat))]) (st := []) zyX8_checkPlace lX8_58 (p_ckP (d := 6) h1) dX8_pattern_1 rfl rfl (Nat.le_of_ble_eq_true rfl) (by omega) (Nat.le_of_ble_eq_true rfl) (Nat.le_of_ble_eq_true rfl) (Or.inl (fun _ _ _ q => ZN q)) (fun r9 K1 n9 q9 => ?_)
  obtain ⟨rfl, q9n, q9h⟩ := q9
  have q9n := q9n.symm
  subst q9n
  have q9h := q9h.symm
  subst q9h
  refine v_aload_n dX8_pattern_4 rfl ?_
  refine v_get fX8_13 dX8_pattern_5 h_0 (by decide) rfl ?_
  refine v_iload_n dX8_pattern_8 rfl ?_
  refine w_mald dX8_pattern_9 h_2 a1 (by omega) (by omega) (by decide) ?_
  exact v_lret dX8_pattern_10 trivial (Nat.le_of_ble_eq_true rfl) (Nat.le_of_ble_eq_true rfl) ⟨rfl, rfl, hH, fr⟩
set_option maxHeartbeats 8000000 in
set_option maxRecDepth 100000 in
theorem p_Hwidth {d n tc a1 : Nat} {wd pt tf : Nat → Nat} {Q : Nat → Int} {qn : Nat → Bool} {L : List Nat} {h : zH} (hH : HD h wd pt Q qn tf tc L) (h1 : a1 < 32) (hd : 7 ≤ d) :
    zM yX8_width cX8_width 2 (some .int) d 0 0 [.ref 0, .int (iI (a1:Nat))] h n (fun r9 h' n' => r9 = some (.int (iI (wd a1 : Nat))) ∧ n' = n ∧ HD h' wd pt Q qn tf tc L ∧ zFr HOL h h') := by
  obtain ⟨h_0, h_1, h_2, h_3, hQ, ⟨hp12, hp13, hp14⟩, hA, hT, hG⟩ := id hH
  refine zM_of zyX8_width rfl (Nat.le_of_ble_eq_true rfl) (fun X hX => ?_)
  have fr : zFr HOL h h := zFr.rf
  refine v_iload_n dX8_width_0 rfl ?_
  refine v_cS (av := [.int (iI (a1:Nat))]) (st := []) zyX8_checkPlace lX8_58 (p_ckP (d := 6) h1) dX8_width_1 rfl rfl (Nat.le_of_ble_eq_true rfl) (by omega) (Nat.le_of_ble_eq_true rfl) (Nat.le_of_ble_eq_true rfl) (Or.inl (fun _ _ _ q => ZN q)) (fun r9 K1 n9 q9 => ?_)
  obtain ⟨rfl, q9n, q9h⟩ := q9
  have q9n := q9n.symm
  subst q9n
  have q9h := q9h.symm
  subst q9h
  refine v_aload_n dX8_width_4 rfl ?_
  refine v_get fX8_9 dX8_width_5 h_0 (by decide) rfl ?_
  refine v_iload_n dX8_width_8 rfl ?_
  refine w_nald dX8_width_9 h_1 a1 (by omega) (by omega) (by decide) ?_
  exact v_iret dX8_width_10 trivial (Nat.le_of_ble_eq_true rfl) (Nat.le_of_ble_eq_true rfl) ⟨rfl, rfl, hH, fr⟩
