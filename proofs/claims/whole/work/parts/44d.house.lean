/-! The House: texts -/
set_option maxHeartbeats 8000000 in
set_option maxRecDepth 100000 in
theorem p_Hread {d n tc a3 : Nat} {wd pt tf : Nat → Nat} {Q : Nat → Int} {qn : Nat → Bool} {L : List Nat} {h : zH} (hH : HD h wd pt Q qn tf tc L) (hPL : PL wd pt) (h3 : a3 < 32) (hf : bb tf) (hc : tc ≤ 80) (hd : 7 ≤ d) :
    zM yX8_read cX8_read 4 (some .int) d 0 0 [.ref 0, .int (iI (a3:Nat))] h n (fun r9 h' n' => r9 = some (.int (iI (cond (rdOk tf tc) 0 (-1 - (rdAt tf tc : Int))))) ∧ n' = n ∧ HD h' wd (cond (rdOk tf tc) (zup pt a3 (mrd tf tc (wd a3))) pt) Q qn tf 0 L ∧ zFr HOL h h') := by
  obtain ⟨h_0, h_1, h_2, h_3, hQ, ⟨hp12, hp13, hp14⟩, hA, hT, hG⟩ := id hH
  have w3 := hPL a3 h3
  obtain ⟨i9, tk9, tens9, mi9, na9, D9, hTP⟩ := id hT
  obtain ⟨h_30, -⟩ := id hTP
  refine zM_of zyX8_read rfl (Nat.le_of_ble_eq_true rfl) (fun X hX => ?_)
  have fr : zFr HOL h h := zFr.rf
  refine v_iload_n dX8_read_0 rfl ?_
  refine v_cS (av := [.int (iI (a3:Nat))]) (st := []) zyX8_checkPlace lX8_58 (p_ckP (d := 6) h3) dX8_read_1 rfl rfl (Nat.le_of_ble_eq_true rfl) (by omega) (Nat.le_of_ble_eq_true rfl) (Nat.le_of_ble_eq_true rfl) (Or.inl (fun _ _ _ q => ZN q)) (fun r9 K1 n9 q9 => ?_)
  obtain ⟨rfl, q9n, q9h⟩ := q9
  have q9n := q9n.symm
  subst q9n
  have q9h := q9h.symm
  subst q9h
  refine v_aload_n dX8_read_4 rfl ?_
  refine v_get fX8_47 dX8_read_5 h_0 (by decide) rfl ?_
  refine v_cV (av := []) (st := []) zyX6_scan lX8_187 h_30 rfl (p_scan (d := 6) hTP hf hc (by decide)) dX8_read_8 rfl rfl (Nat.le_of_ble_eq_true rfl) (by omega) (Nat.le_of_ble_eq_true rfl) (Nat.le_of_ble_eq_true rfl) (Or.inl (fun _ _ _ q => ZN q)) (fun r9 G1 n9 q9 => ?_)
  obtain ⟨rfl, q9n, ⟨tk, tens, mi, D, hTP, hs⟩, fr9⟩ := q9
  have q9n := q9n.symm
  subst q9n
  refine w_ei (bz (rdOk tf tc)) rfl ?_
  have h_0 := (fr9 0 (by decide)).trans h_0
  have h_1 := (fr9 1 (by decide)).trans h_1
  have h_2 := (fr9 2 (by decide)).trans h_2
  have h_3 := (fr9 3 (by decide)).trans h_3
  have hQ := hQ.fr fr9 (by decide)
  have hp12 := hp12.fr fr9 (by decide)
  have hp13 := hp13.fr fr9 (by decide)
  have hp14 := hp14.fr fr9 (by decide)
  have hA := hA.fr fr9 (by decide)
  have hG := hG.fr fr9 (by decide)
  have fr := fr.tr fr9 (by decide)
  obtain ⟨h_30, h_31, hD⟩ := id hTP
  obtain ⟨at9, eat⟩ : ∃ at9, cond (sN tf tc) (nAt tf tc) (sAt tf tc) = at9 := ⟨_, rfl⟩
  rw [eat] at h_30
  have eat2 : rdAt tf tc = at9 := eat
  obtain ⟨nn, enn⟩ : ∃ nn, sN tf tc = nn := ⟨_, rfl⟩
  rw [enn] at h_30 hs
  refine v_istore_n (i := 2) (lv' := [(2, .int (iI (bz (rdOk tf tc)))), (0, .ref 0), (1, .int (iI (a3:Nat)))]) dX8_read_11 rfl (by decide) rfl ?_
  refine v_aload_n dX8_read_12 rfl ?_
  refine v_get fX8_47 dX8_read_13 h_0 (by decide) rfl ?_
  refine v_iconst (iI 0) dX8_read_16 rfl ?_
  refine v_put (fs' := [.ref 31, .int (iI (tk:Nat)), .ref 32, .int (iI 0), .int (iI (at9:Nat)), .int (iI tens), .int (iI (bz mi)), .int (iI (bz nn))]) fX8_178 dX8_read_17 h_30 (by decide) (Nat.le_of_ble_eq_true rfl) rfl rfl rfl (fun H1 eH1 => ?_)
  have h_30 : H1 30 = oTape 31 (tk:Nat) 32 0 (at9:Nat) tens mi nn := zf_same eH1
  have h_0 := (zf_ne eH1 (by decide)).trans h_0
  have h_1 := (zf_ne eH1 (by decide)).trans h_1
  have h_2 := (zf_ne eH1 (by decide)).trans h_2
  have fr := fr.put eH1 (by simp)
  have fy : zFr [30] G1 H1 := zFr.put zFr.rf eH1 (by simp)
  have hT : TPx H1 tf 0 := ⟨at9, tk, tens, mi, nn, D, h_30, (fy 31 (by decide)).trans h_31, hD.fr fy (by decide) (by decide)⟩
  have hD := hD.fr fy (by decide) (by decide)
  have h_3 := (fy 3 (by decide)).trans h_3
  have hQ := hQ.fr fy (by decide)
  have hp12 := hp12.fr fy (by decide)
  have hp13 := hp13.fr fy (by decide)
  have hp14 := hp14.fr fy (by decide)
  have hA := hA.fr fy (by decide)
  have hG := hG.fr fy (by decide)
  refine v_iload_n dX8_read_20 rfl ?_
  refine w_ifb_ne 34 dX8_read_21 (by decide) (fun c1 => ?_) (fun c1 => ?_)
  · have eok : cond (rdOk tf tc) (zup pt a3 (mrd tf tc (wd a3))) pt = zup pt a3 (mrd tf tc (wd a3)) := by rw [c1]; rfl
    refine v_aload_n dX8_read_34 rfl ?_
    refine v_get fX8_9 dX8_read_35 h_0 (by decide) rfl ?_
    refine v_iload_n dX8_read_38 rfl ?_
    refine w_nald dX8_read_39 h_1 a3 (by omega) (by omega) (by decide) ?_
    refine v_istore_n (i := 3) (lv' := [(3, .int (iI (wd a3 : Nat))), (2, .int (iI (bz (rdOk tf tc)))), (0, .ref 0), (1, .int (iI (a3:Nat)))]) dX8_read_40 rfl (by decide) rfl ?_
    refine v_aload_n dX8_read_41 rfl ?_
    refine v_get fX8_13 dX8_read_42 h_0 (by decide) rfl ?_
    refine v_iload_n dX8_read_45 rfl ?_
    refine v_aload_n dX8_read_46 rfl ?_
    refine v_get fX8_47 dX8_read_47 h_0 (by decide) rfl ?_
    refine v_get fX8_193 dX8_read_50 h_30 (by decide) rfl ?_
    refine w_ifb_eq 63 dX8_read_53 (by decide) (fun c2 => ?_) (fun c2 => ?_)
    · have c1' := c1
      unfold rdOk at c1'
      rw [enn, c2, cond_false] at c1'
      obtain ⟨emi, eten, eD⟩ := hs c2 c1'
      have hD2 : D < 10 ^ 60 := by
        have b := sB_b (f := tf) (c := tc)
        rw [eD]
        exact Nat.lt_of_lt_of_le b.2.1 (Nat.pow_le_pow_right (by decide) b.1)
      have hten : -100000 ≤ tens ∧ tens ≤ 100000 := by
        have := sT_b (f := tf) (c := tc)
        rw [eten]; omega
      have ev : dcA (wd a3) mi D tens = mrd tf tc (wd a3) := by
        rw [e_dc mi ⟨w3.1, w3.2.1⟩ hD2]
        unfold mrd
        rw [enn, c2, cond_false, emi, eten, eD]
      refine v_aload_n dX8_read_63 rfl ?_
      refine v_get fX8_40 dX8_read_64 h_0 (by decide) rfl ?_
      refine v_aload_n dX8_read_67 rfl ?_
      refine v_get fX8_47 dX8_read_68 h_0 (by decide) rfl ?_
      refine v_get fX8_197 dX8_read_71 h_30 (by decide) rfl ?_
      refine v_aload_n dX8_read_74 rfl ?_
      refine v_get fX8_47 dX8_read_75 h_0 (by decide) rfl ?_
      refine v_get fX8_201 dX8_read_78 h_30 (by decide) rfl ?_
      refine v_aload_n dX8_read_81 rfl ?_
      refine v_get fX8_47 dX8_read_82 h_0 (by decide) rfl ?_
      refine v_get fX8_204 dX8_read_85 h_30 (by decide) rfl ?_
      refine v_iload_n dX8_read_88 rfl ?_
      obtain ⟨h_15, -⟩ := id hA
      refine v_cV (av := [.ref 32, .int (iI tens), .int (iI (bz mi)), .int (iI (wd a3 : Nat))]) (st := [.int (iI (a3:Nat)), .ref 2]) zyX0_decimalOf lX8_207 h_15 rfl (p_decimalOf (d := 6) hA hD (by decide) hD2 hten (by decide) (by omega)) dX8_read_89 rfl rfl (Nat.le_of_ble_eq_true rfl) (by omega) (Nat.le_of_ble_eq_true rfl) (Nat.le_of_ble_eq_true rfl) (Or.inl (fun _ _ _ q => ZN q)) (fun r9 G3 n9 q9 => ?_)
      obtain ⟨rfl, q9n, hA, fr7⟩ := q9
      have q9n := q9n.symm
      subst q9n
      have h_0 := (fr7 0 (by decide)).trans h_0
      have h_1 := (fr7 1 (by decide)).trans h_1
      have h_2 := (fr7 2 (by decide)).trans h_2
      have h_3 := (fr7 3 (by decide)).trans h_3
      have hQ := hQ.fr fr7 (by decide)
      have hp12 := hp12.fr fr7 (by decide)
      have hp13 := hp13.fr fr7 (by decide)
      have hp14 := hp14.fr fr7 (by decide)
      have hT := hT.fr fr7 (by decide)
      have hG := hG.fr fr7 (by decide)
      have fr := fr.tr fr7 (by decide)
      refine w_el (mrd tf tc (wd a3) : Nat) (congrArg Nat.cast ev) ?_
      refine w_mast dX8_read_92 h_2 a3 (by omega) (by omega) (by decide) (mrd tf tc (wd a3)) rfl (fun H2 eH2 => ?_)
      obtain ⟨F1, eF1⟩ : ∃ zz9, zz9 = zup pt a3 (mrd tf tc (wd a3)) := ⟨_, rfl⟩
      rw [← eF1] at eH2
      have h_2 : H2 2 = aM 32 F1 := zf_same eH2
      have h_0 := (zf_ne eH2 (by decide)).trans h_0
      have h_1 := (zf_ne eH2 (by decide)).trans h_1
      have fr := fr.put eH2 (by simp)
      have fz : zFr [2] G3 H2 := zFr.put zFr.rf eH2 (by simp)
      have h_3 := (fz 3 (by decide)).trans h_3
      have hQ := hQ.fr fz (by decide)
      have hp12 := hp12.fr fz (by decide)
      have hp13 := hp13.fr fz (by decide)
      have hp14 := hp14.fr fz (by decide)
      have hA := hA.fr fz (by decide)
      have hT := hT.fr fz (by decide)
      have hG := hG.fr fz (by decide)
      rw [eF1, ← eok] at h_2
      refine v_iconst (iI 0) dX8_read_93 rfl ?_
      refine w_ei (cond (rdOk tf tc) 0 (-1 - (rdAt tf tc : Int))) (by rw [c1]; rfl) ?_
      exact v_iret dX8_read_94 trivial (Nat.le_of_ble_eq_true rfl) (Nat.le_of_ble_eq_true rfl) ⟨rfl, rfl, ⟨h_0, h_1, h_2, h_3, hQ, ⟨hp12, hp13, hp14⟩, hA, hT, hG⟩, fr⟩
    · have ev : 2 ^ (wd a3 - 1) = mrd tf tc (wd a3) := by
        unfold mrd
        rw [enn, c2, cond_true]
      refine v_iload_n dX8_read_56 rfl ?_
      refine v_cS (av := [.int (iI (wd a3 : Nat))]) (st := [.int (iI (a3:Nat)), .ref 2]) zyX4_notReal lX8_194 (p_notReal (d := 6) (by omega)) dX8_read_57 rfl rfl (Nat.le_of_ble_eq_true rfl) (by omega) (Nat.le_of_ble_eq_true rfl) (Nat.le_of_ble_eq_true rfl) (Or.inl (fun _ _ _ q => ZN q)) (fun r9 K2 n9 q9 => ?_)
      obtain ⟨rfl, q9n, q9h⟩ := q9
      have q9n := q9n.symm
      subst q9n
      have q9h := q9h.symm
      subst q9h
      refine w_el (mrd tf tc (wd a3) : Nat) (congrArg Nat.cast ev) ?_
      refine v_goto 92 dX8_read_60 (by decide) ?_
      refine w_mast dX8_read_92 h_2 a3 (by omega) (by omega) (by decide) (mrd tf tc (wd a3)) rfl (fun H2 eH2 => ?_)
      obtain ⟨F1, eF1⟩ : ∃ zz9, zz9 = zup pt a3 (mrd tf tc (wd a3)) := ⟨_, rfl⟩
      rw [← eF1] at eH2
      have h_2 : H2 2 = aM 32 F1 := zf_same eH2
      have h_0 := (zf_ne eH2 (by decide)).trans h_0
      have h_1 := (zf_ne eH2 (by decide)).trans h_1
      have fr := fr.put eH2 (by simp)
      have fz : zFr [2] H1 H2 := zFr.put zFr.rf eH2 (by simp)
      have h_3 := (fz 3 (by decide)).trans h_3
      have hQ := hQ.fr fz (by decide)
      have hp12 := hp12.fr fz (by decide)
      have hp13 := hp13.fr fz (by decide)
      have hp14 := hp14.fr fz (by decide)
      have hA := hA.fr fz (by decide)
      have hT := hT.fr fz (by decide)
      have hG := hG.fr fz (by decide)
      rw [eF1, ← eok] at h_2
      refine v_iconst (iI 0) dX8_read_93 rfl ?_
      refine w_ei (cond (rdOk tf tc) 0 (-1 - (rdAt tf tc : Int))) (by rw [c1]; rfl) ?_
      exact v_iret dX8_read_94 trivial (Nat.le_of_ble_eq_true rfl) (Nat.le_of_ble_eq_true rfl) ⟨rfl, rfl, ⟨h_0, h_1, h_2, h_3, hQ, ⟨hp12, hp13, hp14⟩, hA, hT, hG⟩, fr⟩
  · have eok : cond (rdOk tf tc) (zup pt a3 (mrd tf tc (wd a3))) pt = pt := by rw [c1]; rfl
    rw [← eok] at h_2
    refine v_iconst (iI (-1)) dX8_read_24 rfl ?_
    refine v_aload_n dX8_read_25 rfl ?_
    refine v_get fX8_47 dX8_read_26 h_0 (by decide) rfl ?_
    refine v_get fX8_190 dX8_read_29 h_30 (by decide) rfl ?_
    refine w_isub dX8_read_32 ?_
    refine w_ei (cond (rdOk tf tc) 0 (-1 - (rdAt tf tc : Int))) (by rw [c1, eat2]; rfl) ?_
    exact v_iret dX8_read_33 trivial (Nat.le_of_ble_eq_true rfl) (Nat.le_of_ble_eq_true rfl) ⟨rfl, rfl, ⟨h_0, h_1, h_2, h_3, hQ, ⟨hp12, hp13, hp14⟩, hA, hT, hG⟩, fr⟩
theorem PG.u {h h' : zH} {L L' : List Nat} {ob oa ev : Bool} {tens : Int} (q : PG h L) (g : zFr [34, 35] h h') (hp : PT h' ob oa ev tens L') : PG h' L' := by
  obtain ⟨-, ⟨v1, h1⟩, ⟨v2, h2⟩, ⟨v3, h3⟩, ⟨v4, h4⟩, ⟨v5, h5⟩, na, mi, s, x, h6⟩ := q
  exact ⟨⟨ob, oa, ev, tens, hp⟩, ⟨v1, h1.fr g (by decide) (by decide)⟩, ⟨v2, h2.fr g (by decide) (by decide)⟩, ⟨v3, h3.fr g (by decide) (by decide)⟩, ⟨v4, h4.fr g (by decide) (by decide)⟩, ⟨v5, h5.fr g (by decide) (by decide)⟩, na, mi, s, x, (g 36 (by decide)).trans h6⟩
theorem PG.u2 {h h' : zH} {L L' : List Nat} {ob oa ev : Bool} {tens : Int} (q : PG h L) (g : zFr [34, 35, 37, 38] h h') (hp : PT h' ob oa ev tens L') (hv : ∃ v, WD h' 37 38 v) : PG h' L' := by
  obtain ⟨-, -, ⟨v2, h2⟩, ⟨v3, h3⟩, ⟨v4, h4⟩, ⟨v5, h5⟩, na, mi, s, x, h6⟩ := q
  exact ⟨⟨ob, oa, ev, tens, hp⟩, hv, ⟨v2, h2.fr g (by decide) (by decide)⟩, ⟨v3, h3.fr g (by decide) (by decide)⟩, ⟨v4, h4.fr g (by decide) (by decide)⟩, ⟨v5, h5.fr g (by decide) (by decide)⟩, na, mi, s, x, (g 36 (by decide)).trans h6⟩
theorem wrt_n {p w : Nat} {br : Bool} {T : List Nat} (hp : p = 2 ^ (w - 1)) (h : wrt p w br T) : T = [78, 97, 82] := by
  rcases h with ⟨-, e⟩ | ⟨-, q, -⟩ | ⟨-, q, -⟩
  · exact e
  · exact absurd hp q
  · exact absurd hp q
theorem wrt_0 {p w : Nat} {br : Bool} {T : List Nat} (hp : p = 0) (h9 : p ≠ 2 ^ (w - 1)) (h : wrt p w br T) : T = [48] := by
  rcases h with ⟨q, -⟩ | ⟨-, -, e⟩ | ⟨q, -⟩
  · exact absurd q h9
  · exact e
  · exact absurd hp q
set_option maxHeartbeats 8000000 in
set_option maxRecDepth 100000 in
theorem p_Hwrite {d n tc a1 : Nat} {wd pt tf : Nat → Nat} {Q : Nat → Int} {qn : Nat → Bool} {L : List Nat} {br : Bool} {h : zH} (hH : HD h wd pt Q qn tf tc L) (hPL : PL wd pt) (h1 : a1 < 32) (hd : 7 ≤ d) :
    zM yX8_write cX8_write 3 (some .int) d 0 0 [.ref 0, .int (iI (a1:Nat)), .int (iI (bz br))] h n (fun r9 h' n' => (∃ T, r9 = some (.int (iI (T.length:Nat))) ∧ HD h' wd pt Q qn tf tc T ∧ ∀ T', wrt (pt a1) (wd a1) br T' → T' = T) ∧ n' = n ∧ zFr HOL h h') := by
  obtain ⟨h_0, h_1, h_2, h_3, hQ, ⟨hp12, hp13, hp14⟩, hA, hT, hG⟩ := id hH
  have w1 := hPL a1 h1
  refine zM_of zyX8_write rfl (Nat.le_of_ble_eq_true rfl) (fun X hX => ?_)
  have fr : zFr HOL h h := zFr.rf
  refine v_iload_n dX8_write_0 rfl ?_
  refine v_cS (av := [.int (iI (a1:Nat))]) (st := []) zyX8_checkPlace lX8_58 (p_ckP (d := 6) h1) dX8_write_1 rfl rfl (Nat.le_of_ble_eq_true rfl) (by omega) (Nat.le_of_ble_eq_true rfl) (Nat.le_of_ble_eq_true rfl) (Or.inl (fun _ _ _ q => ZN q)) (fun r9 K1 n9 q9 => ?_)
  obtain ⟨rfl, q9n, q9h⟩ := q9
  have q9n := q9n.symm
  subst q9n
  have q9h := q9h.symm
  subst q9h
  refine v_aload_n dX8_write_4 rfl ?_
  refine v_get fX8_27 dX8_write_5 h_0 (by decide) rfl ?_
  refine v_aload_n dX8_write_8 rfl ?_
  refine v_get fX8_13 dX8_write_9 h_0 (by decide) rfl ?_
  refine v_iload_n dX8_write_12 rfl ?_
  refine w_mald dX8_write_13 h_2 a1 (by omega) (by omega) (by decide) ?_
  refine v_aload_n dX8_write_14 rfl ?_
  refine v_get fX8_9 dX8_write_15 h_0 (by decide) rfl ?_
  refine v_iload_n dX8_write_18 rfl ?_
  refine w_nald dX8_write_19 h_1 a1 (by omega) (by omega) (by decide) ?_
  obtain ⟨na2, mi2, s2, x2, h_12⟩ := hp12
  refine v_cV (av := [.long (jL (pt a1 : Nat)), .int (iI (wd a1 : Nat))]) (st := []) zyX2_load lX8_71 h_12 rfl (p_load (d := 6) h_12 (by decide) (by omega) w1.2.2) dX8_write_20 rfl rfl (Nat.le_of_ble_eq_true rfl) (by omega) (Nat.le_of_ble_eq_true rfl) (Nat.le_of_ble_eq_true rfl) (Or.inl (fun _ _ _ q => ZN q)) (fun r9 G1 n9 q9 => ?_)
  obtain ⟨rfl, q9n, ⟨sa, xa, h_12, da⟩, fr9⟩ := q9
  have q9n := q9n.symm
  subst q9n
  have h_0 := (fr9 0 (by decide)).trans h_0
  have h_1 := (fr9 1 (by decide)).trans h_1
  have h_2 := (fr9 2 (by decide)).trans h_2
  have h_3 := (fr9 3 (by decide)).trans h_3
  have hQ := hQ.fr fr9 (by decide)
  have hp13 := hp13.fr fr9 (by decide)
  have hp14 := hp14.fr fr9 (by decide)
  have hA := hA.fr fr9 (by decide)
  have hT := hT.fr fr9 (by decide)
  have hG := hG.fr fr9 (by decide)
  have fr := fr.tr fr9 (by decide)
  have hp12 : IP G1 12 := ⟨_, _, _, _, h_12⟩
  have b1 := pd_b ⟨w1.1, w1.2.1⟩ w1.2.2 da
  obtain ⟨⟨ob, oa, ev, tens, hpt⟩, ⟨v1, hR⟩, -⟩ := id hG
  obtain ⟨f, h_34, -⟩ := id hpt
  refine v_aload_n dX8_write_23 rfl ?_
  refine v_get fX8_27 dX8_write_24 h_0 (by decide) rfl ?_
  refine v_get fX8_83 dX8_write_27 h_12 (by decide) rfl ?_
  refine w_ifb_eq 43 dX8_write_30 (by decide) (fun c1 => ?_) (fun c1 => ?_)
  · have z9 := of_decide_eq_false c1
    have v := pd_v ⟨w1.1, w1.2.1⟩ w1.2.2 z9 da
    refine v_aload_n dX8_write_43 rfl ?_
    refine v_get fX8_27 dX8_write_44 h_0 (by decide) rfl ?_
    refine v_get fX8_214 dX8_write_47 h_12 (by decide) rfl ?_
    refine v_lconst (jL 0) dX8_write_50 rfl ?_
    refine w_lcmp_ne 65 dX8_write_51 dX8_write_52 (by decide) (by omega) (by decide) (fun c2 => ?_) (fun c2 => ?_)
    · have z0 : pt a1 ≠ 0 := fun q => c2 (by have := v.2.2.1.mpr (v.2.2.2.mpr q); omega)
      refine v_iload_n dX8_write_65 rfl ?_
      refine w_ifb_eq 95 dX8_write_66 (by decide) (fun c3 => ?_) (fun c3 => ?_)
      · subst c3
        obtain ⟨K, k1, k2, k3, k4, k5⟩ := e_wf ⟨w1.1, w1.2.1⟩ w1.2.2 z0 z9 da
        refine v_aload_n dX8_write_95 rfl ?_
        refine v_get fX8_54 dX8_write_96 h_0 (by decide) rfl ?_
        refine v_aload_n dX8_write_99 rfl ?_
        refine v_get fX8_27 dX8_write_100 h_0 (by decide) rfl ?_
        refine v_cV (av := [.ref 12]) (st := []) zyX1_putFull lX8_225 h_34 rfl (p_putFull (d := 6) hpt hR h_12 (by decide) b1.1 b1.2 (by decide) k1 k2 k3 k4) dX8_write_103 rfl rfl (Nat.le_of_ble_eq_true rfl) (by omega) (Nat.le_of_ble_eq_true rfl) (Nat.le_of_ble_eq_true rfl) (Or.inl (fun _ _ _ q => ZN q)) (fun r9 G2 n9 q9 => ?_)
        obtain ⟨rfl, q9n, hpt, hv, fr8⟩ := q9
        have q9n := q9n.symm
        subst q9n
        have hG := hG.u2 fr8 hpt hv
        have h_0 := (fr8 0 (by decide)).trans h_0
        have h_1 := (fr8 1 (by decide)).trans h_1
        have h_2 := (fr8 2 (by decide)).trans h_2
        have h_3 := (fr8 3 (by decide)).trans h_3
        have hQ := hQ.fr fr8 (by decide)
        have hp12 := hp12.fr fr8 (by decide)
        have hp13 := hp13.fr fr8 (by decide)
        have hp14 := hp14.fr fr8 (by decide)
        have hA := hA.fr fr8 (by decide)
        have hT := hT.fr fr8 (by decide)
        have fr := fr.tr fr8 (by decide)
        obtain ⟨T, eT⟩ : ∃ T, (fR (decide (2 ^ (wd a1 - 1) < pt a1)) (fN sa xa) (-xa).toNat K).reverse = T := ⟨_, rfl⟩
        rw [eT] at hG k5
        obtain ⟨⟨ob, oa, ev, tens, hpt⟩, -⟩ := id hG
        obtain ⟨f, h_34, -⟩ := id hpt
        refine v_aload_n dX8_write_106 rfl ?_
        refine v_get fX8_54 dX8_write_107 h_0 (by decide) rfl ?_
        refine v_get fX8_229 dX8_write_110 h_34 (by decide) rfl ?_
        exact v_iret dX8_write_113 trivial (Nat.le_of_ble_eq_true rfl) (Nat.le_of_ble_eq_true rfl) ⟨⟨_, rfl, ⟨h_0, h_1, h_2, h_3, hQ, ⟨hp12, hp13, hp14⟩, hA, hT, hG⟩, k5⟩, rfl, fr⟩
      · subst c3
        obtain ⟨u, EL, EH, R9, B9, A9, j9, k9, q1, q2, q3, q4, q5, q6, q7, q8, q9, q10, q11, q12, q13, q14, q15, -, k5⟩ := e_ws ⟨w1.1, w1.2.1⟩ w1.2.2 z0 z9 da
        refine v_aload_n dX8_write_69 rfl ?_
        refine v_get fX8_54 dX8_write_70 h_0 (by decide) rfl ?_
        refine v_aload_n dX8_write_73 rfl ?_
        refine v_get fX8_27 dX8_write_74 h_0 (by decide) rfl ?_
        refine v_aload_n dX8_write_77 rfl ?_
        refine v_get fX8_13 dX8_write_78 h_0 (by decide) rfl ?_
        refine v_iload_n dX8_write_81 rfl ?_
        refine w_mald dX8_write_82 h_2 a1 (by omega) (by omega) (by decide) ?_
        refine v_aload_n dX8_write_83 rfl ?_
        refine v_get fX8_9 dX8_write_84 h_0 (by decide) rfl ?_
        refine v_iload_n dX8_write_87 rfl ?_
        refine w_nald dX8_write_88 h_1 a1 (by omega) (by omega) (by decide) ?_
        refine v_cV (av := [.ref 12, .long (jL (pt a1 : Nat)), .int (iI (wd a1 : Nat))]) (st := []) zyX1_putShort lX8_221 h_34 rfl (p_putShort (d := 6) hG h_12 b1.1 b1.2 ⟨w1.1, w1.2.1⟩ q1 (by decide) q2 w1.2.2 q3 q4 q5 q6 q7 q8 q9 q10 q11 q12 q13 q14 q15) dX8_write_89 rfl rfl (Nat.le_of_ble_eq_true rfl) (by omega) (Nat.le_of_ble_eq_true rfl) (Nat.le_of_ble_eq_true rfl) (Or.inl (fun _ _ _ q => ZN q)) (fun r9 G2 n9 q9 => ?_)
        obtain ⟨rfl, q9n, hG, fr8⟩ := q9
        have q9n := q9n.symm
        subst q9n
        have h_0 := (fr8 0 (by decide)).trans h_0
        have h_1 := (fr8 1 (by decide)).trans h_1
        have h_2 := (fr8 2 (by decide)).trans h_2
        have h_3 := (fr8 3 (by decide)).trans h_3
        have hQ := hQ.fr fr8 (by decide)
        have hp12 := hp12.fr fr8 (by decide)
        have hp13 := hp13.fr fr8 (by decide)
        have hp14 := hp14.fr fr8 (by decide)
        have hA := hA.fr fr8 (by decide)
        have hT := hT.fr fr8 (by decide)
        have fr := fr.tr fr8 (by decide)
        obtain ⟨T, eT⟩ : ∃ T, shT (decide (u = 1)) (decide (u = 2 ^ (wd a1 - 1) - 1)) (decide (u % 2 = 0)) (decide (2 ^ (wd a1 - 1) < pt a1)) (1 * 2 ^ 120 * 10 ^ j9) (R9 * 10 ^ k9) (B9 * 10 ^ k9) (A9 * 10 ^ k9) ((j9 : Int) - k9) = T := ⟨_, rfl⟩
        rw [eT] at hG k5
        obtain ⟨⟨ob, oa, ev, tens, hpt⟩, -⟩ := id hG
        obtain ⟨f, h_34, -⟩ := id hpt
        refine v_goto 106 dX8_write_92 (by decide) ?_
        refine v_aload_n dX8_write_106 rfl ?_
        refine v_get fX8_54 dX8_write_107 h_0 (by decide) rfl ?_
        refine v_get fX8_229 dX8_write_110 h_34 (by decide) rfl ?_
        exact v_iret dX8_write_113 trivial (Nat.le_of_ble_eq_true rfl) (Nat.le_of_ble_eq_true rfl) ⟨⟨_, rfl, ⟨h_0, h_1, h_2, h_3, hQ, ⟨hp12, hp13, hp14⟩, hA, hT, hG⟩, k5⟩, rfl, fr⟩
    · have z0 : pt a1 = 0 := v.2.2.2.mp (v.2.2.1.mp (by omega))
      refine v_aload_n dX8_write_55 rfl ?_
      refine v_get fX8_54 dX8_write_56 h_0 (by decide) rfl ?_
      refine v_cV (av := []) (st := []) zyX1_putNought lX8_218 h_34 rfl (p_putNought (d := 6) hpt (by decide)) dX8_write_59 rfl rfl (Nat.le_of_ble_eq_true rfl) (by omega) (Nat.le_of_ble_eq_true rfl) (Nat.le_of_ble_eq_true rfl) (Or.inl (fun _ _ _ q => ZN q)) (fun r9 G2 n9 q9 => ?_)
      obtain ⟨rfl, q9n, hpt, fr8⟩ := q9
      have q9n := q9n.symm
      subst q9n
      have hG := hG.u fr8 hpt
      have h_0 := (fr8 0 (by decide)).trans h_0
      have h_1 := (fr8 1 (by decide)).trans h_1
      have h_2 := (fr8 2 (by decide)).trans h_2
      have h_3 := (fr8 3 (by decide)).trans h_3
      have hQ := hQ.fr fr8 (by decide)
      have hp12 := hp12.fr fr8 (by decide)
      have hp13 := hp13.fr fr8 (by decide)
      have hp14 := hp14.fr fr8 (by decide)
      have hA := hA.fr fr8 (by decide)
      have hT := hT.fr fr8 (by decide)
      have fr := fr.tr fr8 (by decide)
      obtain ⟨⟨ob, oa, ev, tens, hpt⟩, -⟩ := id hG
      obtain ⟨f, h_34, -⟩ := id hpt
      refine v_goto 106 dX8_write_62 (by decide) ?_
      refine v_aload_n dX8_write_106 rfl ?_
      refine v_get fX8_54 dX8_write_107 h_0 (by decide) rfl ?_
      refine v_get fX8_229 dX8_write_110 h_34 (by decide) rfl ?_
      exact v_iret dX8_write_113 trivial (Nat.le_of_ble_eq_true rfl) (Nat.le_of_ble_eq_true rfl) ⟨⟨_, rfl, ⟨h_0, h_1, h_2, h_3, hQ, ⟨hp12, hp13, hp14⟩, hA, hT, hG⟩, fun _ q => wrt_0 z0 z9 q⟩, rfl, fr⟩
  · have z9 := of_decide_eq_true c1
    refine v_aload_n dX8_write_33 rfl ?_
    refine v_get fX8_54 dX8_write_34 h_0 (by decide) rfl ?_
    refine v_cV (av := []) (st := []) zyX1_putNaR lX8_211 h_34 rfl (p_putNaR (d := 6) hpt (by decide)) dX8_write_37 rfl rfl (Nat.le_of_ble_eq_true rfl) (by omega) (Nat.le_of_ble_eq_true rfl) (Nat.le_of_ble_eq_true rfl) (Or.inl (fun _ _ _ q => ZN q)) (fun r9 G2 n9 q9 => ?_)
    obtain ⟨rfl, q9n, hpt, fr8⟩ := q9
    have q9n := q9n.symm
    subst q9n
    have hG := hG.u fr8 hpt
    have h_0 := (fr8 0 (by decide)).trans h_0
    have h_1 := (fr8 1 (by decide)).trans h_1
    have h_2 := (fr8 2 (by decide)).trans h_2
    have h_3 := (fr8 3 (by decide)).trans h_3
    have hQ := hQ.fr fr8 (by decide)
    have hp12 := hp12.fr fr8 (by decide)
    have hp13 := hp13.fr fr8 (by decide)
    have hp14 := hp14.fr fr8 (by decide)
    have hA := hA.fr fr8 (by decide)
    have hT := hT.fr fr8 (by decide)
    have fr := fr.tr fr8 (by decide)
    obtain ⟨⟨ob, oa, ev, tens, hpt⟩, -⟩ := id hG
    obtain ⟨f, h_34, -⟩ := id hpt
    refine v_goto 106 dX8_write_40 (by decide) ?_
    refine v_aload_n dX8_write_106 rfl ?_
    refine v_get fX8_54 dX8_write_107 h_0 (by decide) rfl ?_
    refine v_get fX8_229 dX8_write_110 h_34 (by decide) rfl ?_
    exact v_iret dX8_write_113 trivial (Nat.le_of_ble_eq_true rfl) (Nat.le_of_ble_eq_true rfl) ⟨⟨_, rfl, ⟨h_0, h_1, h_2, h_3, hQ, ⟨hp12, hp13, hp14⟩, hA, hT, hG⟩, fun _ q => wrt_n z9 q⟩, rfl, fr⟩

