/-! The reference: quotients, takings, ratios, settings -/
noncomputable def mov (wd pt : Nat → Nat) (a1 a2 a3 : Nat) : Nat := if pt a1 = 2 ^ (wd a1 - 1) ∨ pt a2 = 2 ^ (wd a2 - 1) ∨ pt a2 = 0 then 2 ^ (wd a3 - 1) else rdR (sgI (pvI (pt a1) (wd a1)) * sgI (pvI (pt a2) (wd a2))) (CP (pvI (pt a1) (wd a1)).natAbs (pvI (pt a2) (wd a2)).natAbs 0 1) (wd a3)
theorem pv_0 {p n : Nat} (h : pvI p n = 0) (hn : 3 ≤ n ∧ n ≤ 32) (hp : p < 2 ^ n) (hp2 : p ≠ 2 ^ (n - 1)) (hl : ∃ s M E, lk p n s M E) : p = 0 := by
  obtain ⟨s, M, E, hl⟩ := hl
  rcases lk_pv hl hp2 with ⟨z, -⟩ | ⟨-, h2, h3, h4, h5, h6, -⟩
  · exact z
  · exfalso
    have hpos : 0 < M * 2 ^ (E + 120).toNat := Nat.mul_pos h3 (p_pos _)
    rw [h] at h6
    rcases h2 with rfl | rfl <;> omega
set_option maxHeartbeats 8000000 in
set_option maxRecDepth 100000 in
theorem p_Mover {d n tc a1 a2 a3 : Nat} {wd pt tf : Nat → Nat} {Q : Nat → Int} {qn : Nat → Bool} {L : List Nat} {th : Int} {h : zH} (hM : MD h wd pt Q qn tf tc L th) (hPL : PL wd pt) (h1 : a1 < 32) (h2 : a2 < 32) (h3 : a3 < 32) (hd : 7 ≤ d) :
    zM yX11_over cX11_over 8 none d 0 0 [.ref 47, .int (iI (a1:Nat)), .int (iI (a2:Nat)), .int (iI (a3:Nat))] h n (fun r9 h' n' => r9 = none ∧ n' = n ∧ MD h' wd (zup pt a3 (mov wd pt a1 a2 a3)) Q qn tf tc L 0 ∧ zFr MOL h h') := by
  obtain ⟨vs, vm, ve, sg, e, rt, at9, sz, dg, pw, tn, fm, h_47, h_48, h_49, ⟨nA, nB, nL, nR, nP, nS, nN, nD, nLo, nUp⟩, h_58, ⟨Q0, n0, hS⟩, hq, h_66, ⟨tx, h_67, hbb, htx⟩, ⟨fg, h_68⟩, ⟨fw, h_73⟩⟩ := id hM
  have w1 := hPL a1 h1
  have w2 := hPL a2 h2
  have w3 := hPL a3 h3
  have q2 : 2 ^ wd a2 ≤ 2 ^ 32 := Nat.pow_le_pow_right (by decide) w2.2.1
  have p2 : pt a2 < 4294967296 := Nat.lt_of_lt_of_le w2.2.2 q2
  refine zM_of zyX11_over rfl (Nat.le_of_ble_eq_true rfl) (fun X hX => ?_)
  have fr : zFr MOL h h := zFr.rf
  have nar38 : ∀ (H : zH), MD H wd pt Q qn tf tc L 0 → zFr MOL h H → (pt a1 = 2 ^ (wd a1 - 1) ∨ pt a2 = 2 ^ (wd a2 - 1) ∨ pt a2 = 0) → (zV X (fun r9 h' n' => r9 = none ∧ n' = n ∧ MD h' wd (zup pt a3 (mov wd pt a1 a2 a3)) Q qn tf tc L 0 ∧ zFr MOL h h') cX11_over 8 RX11 none d 0 0 38 [(0, .ref 47), (1, .int (iI (a1:Nat))), (2, .int (iI (a2:Nat))), (3, .int (iI (a3:Nat)))] [] H n 0 0) := by
    intro H hM fr hn
    obtain ⟨vs, vm, ve, sg, e, rt, at9, sz, dg, pw, tn, fm, h_47, h_48, h_49, ⟨nA, nB, nL, nR, nP, nS, nN, nD, nLo, nUp⟩, h_58, ⟨Q0, n0, hS⟩, hq, h_66, ⟨tx, h_67, hbb, htx⟩, ⟨fg, h_68⟩, ⟨fw, h_73⟩⟩ := id hM
    refine v_aload_n dX11_over_38 rfl ?_
    refine v_iload_n dX11_over_39 rfl ?_
    refine v_cV (av := [.int (iI (a3:Nat))]) (st := []) zyX11_becomeNar lX11_182 h_47 rfl (p_becomeNar (d := 6) h_47 h_48 h_49 h3 ⟨w3.1, w3.2.1⟩) dX11_over_40 rfl rfl (Nat.le_of_ble_eq_true rfl) (by omega) (Nat.le_of_ble_eq_true rfl) (Nat.le_of_ble_eq_true rfl) (Or.inl (fun _ _ _ q => ZN q)) (fun r9 G9 n9 q9 => ?_)
    obtain ⟨rfl, q9n, h_49, fr8⟩ := q9
    have q9n := q9n.symm
    subst q9n
    have h_47 := (fr8 47 (by decide)).trans h_47
    have h_48 := (fr8 48 (by decide)).trans h_48
    have h_58 := (fr8 58 (by decide)).trans h_58
    have h_66 := (fr8 66 (by decide)).trans h_66
    have h_67 := (fr8 67 (by decide)).trans h_67
    have h_68 := (fr8 68 (by decide)).trans h_68
    have h_73 := (fr8 73 (by decide)).trans h_73
    have nA := nA.fr fr8 (by decide) (by decide)
    have nB := nB.fr fr8 (by decide) (by decide)
    have nL := nL.fr fr8 (by decide) (by decide)
    have nR := nR.fr fr8 (by decide) (by decide)
    have nP := nP.fr fr8 (by decide) (by decide)
    have nS := nS.fr fr8 (by decide) (by decide)
    have nN := nN.fr fr8 (by decide) (by decide)
    have nD := nD.fr fr8 (by decide) (by decide)
    have nLo := nLo.fr fr8 (by decide) (by decide)
    have nUp := nUp.fr fr8 (by decide) (by decide)
    have hS := hS.fr fr8 (by decide) (by decide) (by decide)
    have hq := hq.fr fr8 (by decide)
    have fr := fr.tr fr8 (by decide)
    exact v_vret dX11_over_43 trivial (Nat.le_of_ble_eq_true rfl) (Nat.le_of_ble_eq_true rfl) ⟨rfl, rfl, by unfold mov; rw [if_pos hn]; exact ⟨_, _, _, _, _, _, _, _, _, _, _, _, h_47, h_48, h_49, ⟨nA, nB, nL, nR, nP, nS, nN, nD, nLo, nUp⟩, h_58, ⟨_, _, hS⟩, hq, h_66, ⟨_, h_67, hbb, htx⟩, ⟨_, h_68⟩, ⟨_, h_73⟩⟩, fr⟩
  refine v_aload_n dX11_over_0 rfl ?_
  refine v_iload_n dX11_over_1 rfl ?_
  refine v_iload_n dX11_over_2 rfl ?_
  refine v_iload_n dX11_over_3 rfl ?_
  refine v_cV (av := [.int (iI (a1:Nat)), .int (iI (a2:Nat)), .int (iI (a3:Nat))]) (st := []) zyX11_goesThree lX11_224 h_47 rfl (p_goesThreeT (d := 6) h_47 h1 h2 h3 (by decide)) dX11_over_4 rfl rfl (Nat.le_of_ble_eq_true rfl) (by omega) (Nat.le_of_ble_eq_true rfl) (Nat.le_of_ble_eq_true rfl) (Or.inl (fun _ _ _ q => ZN q)) (fun r9 G1 n9 q9 => ?_)
  obtain ⟨rfl, q9n, h_47, fr9⟩ := q9
  have q9n := q9n.symm
  subst q9n
  have h_48 := (fr9 48 (by decide)).trans h_48
  have h_49 := (fr9 49 (by decide)).trans h_49
  have h_58 := (fr9 58 (by decide)).trans h_58
  have h_66 := (fr9 66 (by decide)).trans h_66
  have h_67 := (fr9 67 (by decide)).trans h_67
  have h_68 := (fr9 68 (by decide)).trans h_68
  have h_73 := (fr9 73 (by decide)).trans h_73
  have nA := nA.fr fr9 (by decide) (by decide)
  have nB := nB.fr fr9 (by decide) (by decide)
  have nL := nL.fr fr9 (by decide) (by decide)
  have nR := nR.fr fr9 (by decide) (by decide)
  have nP := nP.fr fr9 (by decide) (by decide)
  have nS := nS.fr fr9 (by decide) (by decide)
  have nN := nN.fr fr9 (by decide) (by decide)
  have nD := nD.fr fr9 (by decide) (by decide)
  have nLo := nLo.fr fr9 (by decide) (by decide)
  have nUp := nUp.fr fr9 (by decide) (by decide)
  have hS := hS.fr fr9 (by decide) (by decide) (by decide)
  have hq := hq.fr fr9 (by decide)
  have fr := fr.tr fr9 (by decide)
  refine w_ifb_ne 11 dX11_over_7 (by decide) (fun c1 => ?_) (fun c1 => ?_)
  · skip
    refine v_aload_n dX11_over_11 rfl ?_
    refine v_iload_n dX11_over_12 rfl ?_
    refine v_cV (av := [.int (iI (a1:Nat))]) (st := []) zyX11_isNar lX11_176 h_47 rfl (p_misNar (d := 6) h_47 h_48 h_49 hPL h1) dX11_over_13 rfl rfl (Nat.le_of_ble_eq_true rfl) (by omega) (Nat.le_of_ble_eq_true rfl) (Nat.le_of_ble_eq_true rfl) (Or.inl (fun _ _ _ q => ZN q)) (fun r9 K1 n9 q9 => ?_)
    obtain ⟨rfl, q9n, q9h⟩ := q9
    have q9n := q9n.symm
    subst q9n
    have q9h := q9h.symm
    subst q9h
    refine w_ifb_ne 38 dX11_over_16 (by decide) (fun x1 => ?_) (fun x1 => ?_)
    · exact nar38 _ ⟨_, _, _, _, _, _, _, _, _, _, _, _, h_47, h_48, h_49, ⟨nA, nB, nL, nR, nP, nS, nN, nD, nLo, nUp⟩, h_58, ⟨_, _, hS⟩, hq, h_66, ⟨_, h_67, hbb, htx⟩, ⟨_, h_68⟩, ⟨_, h_73⟩⟩ fr (Or.inl (of_decide_eq_true x1))
    · have x1 := of_decide_eq_false x1
      refine v_aload_n dX11_over_19 rfl ?_
      refine v_iload_n dX11_over_20 rfl ?_
      refine v_cV (av := [.int (iI (a2:Nat))]) (st := []) zyX11_isNar lX11_176 h_47 rfl (p_misNar (d := 6) h_47 h_48 h_49 hPL h2) dX11_over_21 rfl rfl (Nat.le_of_ble_eq_true rfl) (by omega) (Nat.le_of_ble_eq_true rfl) (Nat.le_of_ble_eq_true rfl) (Or.inl (fun _ _ _ q => ZN q)) (fun r9 K2 n9 q9 => ?_)
      obtain ⟨rfl, q9n, q9h⟩ := q9
      have q9n := q9n.symm
      subst q9n
      have q9h := q9h.symm
      subst q9h
      refine w_ifb_ne 38 dX11_over_24 (by decide) (fun x2 => ?_) (fun x2 => ?_)
      · exact nar38 _ ⟨_, _, _, _, _, _, _, _, _, _, _, _, h_47, h_48, h_49, ⟨nA, nB, nL, nR, nP, nS, nN, nD, nLo, nUp⟩, h_58, ⟨_, _, hS⟩, hq, h_66, ⟨_, h_67, hbb, htx⟩, ⟨_, h_68⟩, ⟨_, h_73⟩⟩ fr (Or.inr (Or.inl (of_decide_eq_true x2)))
      · have x2 := of_decide_eq_false x2
        refine v_aload_n dX11_over_27 rfl ?_
        refine v_get fX11_20 dX11_over_28 h_47 (by decide) rfl ?_
        refine v_iload_n dX11_over_31 rfl ?_
        refine w_mald dX11_over_32 h_49 a2 (by omega) (by omega) (by decide) ?_
        refine v_lconst (jL 0) dX11_over_33 rfl ?_
        refine w_lcmp_ne 44 dX11_over_34 dX11_over_35 (by decide) (by omega) (by decide) (fun x3 => ?_) (fun x3 => ?_)
        · skip
          refine v_aload_n dX11_over_44 rfl ?_
          refine v_iload_n dX11_over_45 rfl ?_
          refine v_cV (av := [.int (iI (a2:Nat))]) (st := []) zyX11_look lX11_112 h_47 rfl (p_look (d := 6) h_47 h_48 h_49 hPL h2 (by decide)) dX11_over_46 rfl rfl (Nat.le_of_ble_eq_true rfl) (by omega) (Nat.le_of_ble_eq_true rfl) (Nat.le_of_ble_eq_true rfl) (Or.inl (fun _ _ _ q => ZN q)) (fun r9 G2 n9 q9 => ?_)
          obtain ⟨rfl, q9n, ⟨s2, M2, E2, h_47, hl2, hm2, hx2, hy2⟩, fr8⟩ := q9
          have q9n := q9n.symm
          subst q9n
          obtain ⟨es2, hsz2⟩ := lk_sg hl2 x2
          have h_48 := (fr8 48 (by decide)).trans h_48
          have h_49 := (fr8 49 (by decide)).trans h_49
          have h_58 := (fr8 58 (by decide)).trans h_58
          have h_66 := (fr8 66 (by decide)).trans h_66
          have h_67 := (fr8 67 (by decide)).trans h_67
          have h_68 := (fr8 68 (by decide)).trans h_68
          have h_73 := (fr8 73 (by decide)).trans h_73
          have nA := nA.fr fr8 (by decide) (by decide)
          have nB := nB.fr fr8 (by decide) (by decide)
          have nL := nL.fr fr8 (by decide) (by decide)
          have nR := nR.fr fr8 (by decide) (by decide)
          have nP := nP.fr fr8 (by decide) (by decide)
          have nS := nS.fr fr8 (by decide) (by decide)
          have nN := nN.fr fr8 (by decide) (by decide)
          have nD := nD.fr fr8 (by decide) (by decide)
          have nLo := nLo.fr fr8 (by decide) (by decide)
          have nUp := nUp.fr fr8 (by decide) (by decide)
          have hS := hS.fr fr8 (by decide) (by decide) (by decide)
          have hq := hq.fr fr8 (by decide)
          have fr := fr.tr fr8 (by decide)
          have hs2 : s2 ≠ 0 := fun z => x3 (by
            have := pv_0 (p := pt a2) (n := wd a2) (by have := sgI_c (pvI (pt a2) (wd a2)); omega) ⟨w2.1, w2.2.1⟩ w2.2.2 x2 ⟨_, _, _, hl2⟩
            omega)
          have k2 := hsz2 hs2
          refine v_aload_n dX11_over_49 rfl ?_
          refine v_get fX11_17 dX11_over_50 h_47 (by decide) rfl ?_
          refine v_istore (i := 4) (lv' := [(4, .int (iI s2)), (0, .ref 47), (1, .int (iI (a1:Nat))), (2, .int (iI (a2:Nat))), (3, .int (iI (a3:Nat)))]) dX11_over_53 (by decide) rfl ?_
          refine v_aload_n dX11_over_55 rfl ?_
          refine v_get fX11_7 dX11_over_56 h_47 (by decide) rfl ?_
          refine v_lstore (i := 5) (lv' := [(5, .long (jL (M2:Nat))), (4, .int (iI s2)), (0, .ref 47), (1, .int (iI (a1:Nat))), (2, .int (iI (a2:Nat))), (3, .int (iI (a3:Nat)))]) dX11_over_59 (by decide) rfl ?_
          refine v_aload_n dX11_over_61 rfl ?_
          refine v_get fX11_13 dX11_over_62 h_47 (by decide) rfl ?_
          refine v_istore (i := 7) (lv' := [(7, .int (iI E2)), (5, .long (jL (M2:Nat))), (4, .int (iI s2)), (0, .ref 47), (1, .int (iI (a1:Nat))), (2, .int (iI (a2:Nat))), (3, .int (iI (a3:Nat)))]) dX11_over_65 (by decide) rfl ?_
          refine v_aload_n dX11_over_67 rfl ?_
          refine v_iload_n dX11_over_68 rfl ?_
          refine v_cV (av := [.int (iI (a1:Nat))]) (st := []) zyX11_takeValue lX11_179 h_47 rfl (p_takeValue (d := 6) h_47 h_48 h_49 hPL h1 nA nB (by decide)) dX11_over_69 rfl rfl (Nat.le_of_ble_eq_true rfl) (by omega) (Nat.le_of_ble_eq_true rfl) (Nat.le_of_ble_eq_true rfl) (Or.inl (fun _ _ _ q => ZN q)) (fun r9 G3 n9 q9 => ?_)
          obtain ⟨rfl, q9n, ⟨s1, M1, E1, h_47, hl1, hm1, hx1, hy1, hA, hB⟩, fr7⟩ := q9
          have q9n := q9n.symm
          subst q9n
          obtain ⟨es, hsz⟩ := lk_sg hl1 x1
          have hsr := sgI_r (pvI (pt a1) (wd a1))
          have hsr2 := sgI_r (pvI (pt a2) (wd a2))
          rw [← es] at hsr
          rw [← es2] at hsr2
          have h_48 := (fr7 48 (by decide)).trans h_48
          have h_49 := (fr7 49 (by decide)).trans h_49
          have h_58 := (fr7 58 (by decide)).trans h_58
          have h_66 := (fr7 66 (by decide)).trans h_66
          have h_67 := (fr7 67 (by decide)).trans h_67
          have h_68 := (fr7 68 (by decide)).trans h_68
          have h_73 := (fr7 73 (by decide)).trans h_73
          have nL := nL.fr fr7 (by decide) (by decide)
          have nR := nR.fr fr7 (by decide) (by decide)
          have nP := nP.fr fr7 (by decide) (by decide)
          have nS := nS.fr fr7 (by decide) (by decide)
          have nN := nN.fr fr7 (by decide) (by decide)
          have nD := nD.fr fr7 (by decide) (by decide)
          have nLo := nLo.fr fr7 (by decide) (by decide)
          have nUp := nUp.fr fr7 (by decide) (by decide)
          have hS := hS.fr fr7 (by decide) (by decide) (by decide)
          have hq := hq.fr fr7 (by decide)
          have fr := fr.tr fr7 (by decide)
          have nA := hA.ns
          have nB := hB.ns
          refine v_aload_n dX11_over_72 rfl ?_
          refine v_dup dX11_over_73 rfl ?_
          refine v_get fX11_32 dX11_over_74 h_47 (by decide) rfl ?_
          refine v_iload dX11_over_77 rfl ?_
          refine w_imul dX11_over_79 ?_
          refine v_put (fs' := [.int (iI s1), .long (jL (M1:Nat)), .int (iI E1), .ref 48, .ref 49, .int (iI (s1 * s2)), .ref 50, .ref 52, .int (iI E1), .int (iI 1), .ref 54, .ref 56, .ref 58, .ref 59, .ref 62, .ref 64, .int (iI 0), .ref 66, .int (iI (tc:Nat)), .ref 67, .int (iI (L.length:Nat)), .int (iI at9), .int (iI sz), .int (iI dg), .int (iI pw), .ref 68, .ref 69, .ref 71, .int (iI tn), .ref 73, .int (iI fm), .ref 74, .ref 76]) fX11_32 dX11_over_80 h_47 (by decide) (Nat.le_of_ble_eq_true rfl) rfl rfl rfl (fun H1 eH1 => ?_)
          have h_47 : H1 47 = oModel s1 (M1:Nat) E1 (s1 * s2) E1 1 0 (tc:Nat) (L.length:Nat) at9 sz dg pw tn fm := zf_same eH1
          have h_48 := (zf_ne eH1 (by decide)).trans h_48
          have h_49 := (zf_ne eH1 (by decide)).trans h_49
          have fr := fr.put eH1 (by simp)
          refine v_aload_n dX11_over_83 rfl ?_
          refine v_get fX11_45 dX11_over_84 h_47 (by decide) rfl ?_
          refine v_lload dX11_over_87 rfl ?_
          have fz : zFr [47] G3 H1 := zFr.put zFr.rf eH1 (by simp)
          have h_58 := (fz 58 (by decide)).trans h_58
          have h_66 := (fz 66 (by decide)).trans h_66
          have h_67 := (fz 67 (by decide)).trans h_67
          have h_68 := (fz 68 (by decide)).trans h_68
          have h_73 := (fz 73 (by decide)).trans h_73
          have nA := nA.fr fz (by decide) (by decide)
          have nB := nB.fr fz (by decide) (by decide)
          have nL := nL.fr fz (by decide) (by decide)
          have nR := nR.fr fz (by decide) (by decide)
          have nP := nP.fr fz (by decide) (by decide)
          have nS := nS.fr fz (by decide) (by decide)
          have nN := nN.fr fz (by decide) (by decide)
          have nD := nD.fr fz (by decide) (by decide)
          have nLo := nLo.fr fz (by decide) (by decide)
          have nUp := nUp.fr fz (by decide) (by decide)
          have hS := hS.fr fz (by decide) (by decide) (by decide)
          have hq := hq.fr fz (by decide)
          have hA := hA.fr fz (by decide) (by decide)
          have hB := hB.fr fz (by decide) (by decide)
          obtain ⟨_, _, h_52, -⟩ := id hB
          refine v_cV (av := [.long (jL (M2:Nat))]) (st := []) zyX9_set lX11_39 h_52 rfl (p_nset (d := 6) (x := M2) hB.ns (by omega) (by omega) (by omega)) dX11_over_89 rfl rfl (Nat.le_of_ble_eq_true rfl) (by omega) (Nat.le_of_ble_eq_true rfl) (Nat.le_of_ble_eq_true rfl) (Or.inl (fun _ _ _ q => ZN q)) (fun r9 G4 n9 q9 => ?_)
          obtain ⟨rfl, q9n, hB, fr6⟩ := q9
          have q9n := q9n.symm
          subst q9n
          have hA := hA.fr fr6 (by decide) (by decide)
          have h_47 := (fr6 47 (by decide)).trans h_47
          have h_48 := (fr6 48 (by decide)).trans h_48
          have h_49 := (fr6 49 (by decide)).trans h_49
          have h_58 := (fr6 58 (by decide)).trans h_58
          have h_66 := (fr6 66 (by decide)).trans h_66
          have h_67 := (fr6 67 (by decide)).trans h_67
          have h_68 := (fr6 68 (by decide)).trans h_68
          have h_73 := (fr6 73 (by decide)).trans h_73
          have nA := nA.fr fr6 (by decide) (by decide)
          have nL := nL.fr fr6 (by decide) (by decide)
          have nR := nR.fr fr6 (by decide) (by decide)
          have nP := nP.fr fr6 (by decide) (by decide)
          have nS := nS.fr fr6 (by decide) (by decide)
          have nN := nN.fr fr6 (by decide) (by decide)
          have nD := nD.fr fr6 (by decide) (by decide)
          have nLo := nLo.fr fr6 (by decide) (by decide)
          have nUp := nUp.fr fr6 (by decide) (by decide)
          have hS := hS.fr fr6 (by decide) (by decide) (by decide)
          have hq := hq.fr fr6 (by decide)
          have fr := fr.tr fr6 (by decide)
          have nB := hB.ns
          refine v_aload_n dX11_over_92 rfl ?_
          refine v_dup dX11_over_93 rfl ?_
          refine v_get fX11_48 dX11_over_94 h_47 (by decide) rfl ?_
          refine v_iload dX11_over_97 rfl ?_
          refine w_isub dX11_over_99 ?_
          refine v_put (fs' := [.int (iI s1), .long (jL (M1:Nat)), .int (iI E1), .ref 48, .ref 49, .int (iI (s1 * s2)), .ref 50, .ref 52, .int (iI (E1 - E2)), .int (iI 1), .ref 54, .ref 56, .ref 58, .ref 59, .ref 62, .ref 64, .int (iI 0), .ref 66, .int (iI (tc:Nat)), .ref 67, .int (iI (L.length:Nat)), .int (iI at9), .int (iI sz), .int (iI dg), .int (iI pw), .ref 68, .ref 69, .ref 71, .int (iI tn), .ref 73, .int (iI fm), .ref 74, .ref 76]) fX11_48 dX11_over_100 h_47 (by decide) (Nat.le_of_ble_eq_true rfl) rfl rfl rfl (fun H2 eH2 => ?_)
          have h_47 : H2 47 = oModel s1 (M1:Nat) E1 (s1 * s2) (E1 - E2) 1 0 (tc:Nat) (L.length:Nat) at9 sz dg pw tn fm := zf_same eH2
          have h_48 := (zf_ne eH2 (by decide)).trans h_48
          have h_49 := (zf_ne eH2 (by decide)).trans h_49
          have fr := fr.put eH2 (by simp)
          refine v_aload_n dX11_over_103 rfl ?_
          refine v_iload_n dX11_over_104 rfl ?_
          have fz2 : zFr [47] G4 H2 := zFr.put zFr.rf eH2 (by simp)
          have h_58 := (fz2 58 (by decide)).trans h_58
          have h_66 := (fz2 66 (by decide)).trans h_66
          have h_67 := (fz2 67 (by decide)).trans h_67
          have h_68 := (fz2 68 (by decide)).trans h_68
          have h_73 := (fz2 73 (by decide)).trans h_73
          have nA := nA.fr fz2 (by decide) (by decide)
          have nB := nB.fr fz2 (by decide) (by decide)
          have nL := nL.fr fz2 (by decide) (by decide)
          have nR := nR.fr fz2 (by decide) (by decide)
          have nP := nP.fr fz2 (by decide) (by decide)
          have nS := nS.fr fz2 (by decide) (by decide)
          have nN := nN.fr fz2 (by decide) (by decide)
          have nD := nD.fr fz2 (by decide) (by decide)
          have nLo := nLo.fr fz2 (by decide) (by decide)
          have nUp := nUp.fr fz2 (by decide) (by decide)
          have hS := hS.fr fz2 (by decide) (by decide) (by decide)
          have hq := hq.fr fz2 (by decide)
          have hA := hA.fr fz2 (by decide) (by decide)
          have hB := hB.fr fz2 (by decide) (by decide)
          have hnM1 : nb M1 ≤ 32 := nb_le (k := 32) hm1
          have hnM2 : nb M2 ≤ 32 := nb_le (k := 32) hm2
          have hpr : -1 ≤ s1 * s2 ∧ s1 * s2 ≤ 1 := by
            have y1 : s1 = -1 ∨ s1 = 0 ∨ s1 = 1 := by omega
            have y2 : s2 = -1 ∨ s2 = 0 ∨ s2 = 1 := by omega
            rcases y1 with rfl | rfl | rfl <;> rcases y2 with rfl | rfl | rfl <;> decide
          have hp0 : s1 * s2 ≠ 0 → s1 ≠ 0 := fun z z2 => z (by rw [z2, Int.zero_mul])
          refine v_cV (av := [.int (iI (a3:Nat))]) (st := []) zyX11_become lX11_185 h_47 rfl (p_become (d := 6) (rt := 1) h_47 h_48 h_49 hA hB nL nR hpr (fun z => by have := hsz (hp0 z); omega) (by omega) (by omega) (by omega) (by decide) (by omega) h3 ⟨w3.1, w3.2.1⟩ (by decide)) dX11_over_105 rfl rfl (Nat.le_of_ble_eq_true rfl) (by omega) (Nat.le_of_ble_eq_true rfl) (Nat.le_of_ble_eq_true rfl) (Or.inl (fun _ _ _ q => ZN q)) (fun r9 G6 n9 q9 => ?_)
          obtain ⟨rfl, q9n, ⟨v7, v8, v9, h_47⟩, h_49, nL, nR, fr4⟩ := q9
          have q9n := q9n.symm
          subst q9n
          have h_48 := (fr4 48 (by decide)).trans h_48
          have h_58 := (fr4 58 (by decide)).trans h_58
          have h_66 := (fr4 66 (by decide)).trans h_66
          have h_67 := (fr4 67 (by decide)).trans h_67
          have h_68 := (fr4 68 (by decide)).trans h_68
          have h_73 := (fr4 73 (by decide)).trans h_73
          have nA := nA.fr fr4 (by decide) (by decide)
          have nB := nB.fr fr4 (by decide) (by decide)
          have nP := nP.fr fr4 (by decide) (by decide)
          have nS := nS.fr fr4 (by decide) (by decide)
          have nN := nN.fr fr4 (by decide) (by decide)
          have nD := nD.fr fr4 (by decide) (by decide)
          have nLo := nLo.fr fr4 (by decide) (by decide)
          have nUp := nUp.fr fr4 (by decide) (by decide)
          have hS := hS.fr fr4 (by decide) (by decide) (by decide)
          have hq := hq.fr fr4 (by decide)
          have fr := fr.tr fr4 (by decide)
          have e9 : rdR (s1 * s2) (CP M1 M2 (E1 - E2) 1) (wd a3) = mov wd pt a1 a2 a3 := by
            unfold mov
            rw [if_neg (fun z => z.elim x1 (fun z => z.elim x2 (fun z => x3 (by omega)))), ← es, ← es2]
            refine rd_c (fun z => ?_)
            have k1 := hsz (hp0 z)
            have e1 := CP_a (b := M2) (c := -E2) (rt := 1) k1.1 k1.2.1
            have e2 := CP_b (b := (pvI (pt a1) (wd a1)).natAbs) (c := -120) (rt := 1) k2.1 k2.2.1
            rw [Int.sub_eq_add_neg, e1, ← Int.sub_eq_add_neg, e2]
            rfl
          rw [e9] at h_49
          exact v_vret dX11_over_108 trivial (Nat.le_of_ble_eq_true rfl) (Nat.le_of_ble_eq_true rfl) ⟨rfl, rfl, ⟨_, _, _, _, _, _, _, _, _, _, _, _, h_47, h_48, h_49, ⟨nA, nB, nL, nR, nP, nS, nN, nD, nLo, nUp⟩, h_58, ⟨_, _, hS⟩, hq, h_66, ⟨_, h_67, hbb, htx⟩, ⟨_, h_68⟩, ⟨_, h_73⟩⟩, fr⟩
        · exact nar38 _ ⟨_, _, _, _, _, _, _, _, _, _, _, _, h_47, h_48, h_49, ⟨nA, nB, nL, nR, nP, nS, nN, nD, nLo, nUp⟩, h_58, ⟨_, _, hS⟩, hq, h_66, ⟨_, h_67, hbb, htx⟩, ⟨_, h_68⟩, ⟨_, h_73⟩⟩ fr (Or.inr (Or.inr (by omega)))
  · exact absurd c1 (by decide)
set_option maxHeartbeats 8000000 in
set_option maxRecDepth 100000 in
theorem p_Mset {d n tc a1 w : Nat} {wd pt tf : Nat → Nat} {Q : Nat → Int} {qn : Nat → Bool} {L : List Nat} {th b9 : Int} {h : zH} (hM : MD h wd pt Q qn tf tc L th) (h1 : a1 < 32) (hw : 3 ≤ w ∧ w ≤ 32) (hb : -2147483648 ≤ b9 ∧ b9 < 2147483648) (hd : 2 ≤ d) :
    zM yX11_set cX11_set 4 none d 0 0 [.ref 47, .int (iI (a1:Nat)), .int (iI (w:Nat)), .int (iI b9)] h n (fun r9 h' n' => r9 = none ∧ n' = n ∧ MD h' (zup wd a1 w) (zup pt a1 (b9 % (2 ^ w : Nat)).toNat) Q qn tf tc L 0 ∧ zFr MOL h h') := by
  obtain ⟨vs, vm, ve, sg, e, rt, at9, sz, dg, pw, tn, fm, h_47, h_48, h_49, ⟨nA, nB, nL, nR, nP, nS, nN, nD, nLo, nUp⟩, h_58, ⟨Q0, n0, hS⟩, hq, h_66, ⟨tx, h_67, hbb, htx⟩, ⟨fg, h_68⟩, ⟨fw, h_73⟩⟩ := id hM
  refine zM_of zyX11_set rfl (Nat.le_of_ble_eq_true rfl) (fun X hX => ?_)
  have fr : zFr MOL h h := zFr.rf
  refine v_aload_n dX11_set_0 rfl ?_
  refine v_iload_n dX11_set_1 rfl ?_
  refine v_cS (av := [.int (iI (a1:Nat))]) (st := [.ref 47]) zyX11_isPlace lX11_165 (p_isPlaceT (d := 1) h1) dX11_set_2 rfl rfl (Nat.le_of_ble_eq_true rfl) (by omega) (Nat.le_of_ble_eq_true rfl) (Nat.le_of_ble_eq_true rfl) (Or.inl (fun _ _ _ q => ZN q)) (fun r9 K1 n9 q9 => ?_)
  obtain ⟨rfl, q9n, q9h⟩ := q9
  have q9n := q9n.symm
  subst q9n
  have q9h := q9h.symm
  subst q9h
  refine v_iload_n dX11_set_5 rfl ?_
  refine v_cS (av := [.int (iI (w:Nat))]) (st := [.int (iI (bz true)), .ref 47]) zyX11_isWidth lX11_169 (p_isWidthT (d := 1) hw) dX11_set_6 rfl rfl (Nat.le_of_ble_eq_true rfl) (by omega) (Nat.le_of_ble_eq_true rfl) (Nat.le_of_ble_eq_true rfl) (Or.inl (fun _ _ _ q => ZN q)) (fun r9 K2 n9 q9 => ?_)
  obtain ⟨rfl, q9n, q9h⟩ := q9
  have q9n := q9n.symm
  subst q9n
  have q9h := q9h.symm
  subst q9h
  refine v_cV (av := [.int (iI (bz true)), .int (iI (bz true))]) (st := []) zyX11_goes lX11_172 h_47 rfl (p_goesT (d := 1) h_47) dX11_set_9 rfl rfl (Nat.le_of_ble_eq_true rfl) (by omega) (Nat.le_of_ble_eq_true rfl) (Nat.le_of_ble_eq_true rfl) (Or.inl (fun _ _ _ q => ZN q)) (fun r9 G1 n9 q9 => ?_)
  obtain ⟨rfl, q9n, h_47, fr9⟩ := q9
  have q9n := q9n.symm
  subst q9n
  have h_48 := (fr9 48 (by decide)).trans h_48
  have h_49 := (fr9 49 (by decide)).trans h_49
  have h_58 := (fr9 58 (by decide)).trans h_58
  have h_66 := (fr9 66 (by decide)).trans h_66
  have h_67 := (fr9 67 (by decide)).trans h_67
  have h_68 := (fr9 68 (by decide)).trans h_68
  have h_73 := (fr9 73 (by decide)).trans h_73
  have nA := nA.fr fr9 (by decide) (by decide)
  have nB := nB.fr fr9 (by decide) (by decide)
  have nL := nL.fr fr9 (by decide) (by decide)
  have nR := nR.fr fr9 (by decide) (by decide)
  have nP := nP.fr fr9 (by decide) (by decide)
  have nS := nS.fr fr9 (by decide) (by decide)
  have nN := nN.fr fr9 (by decide) (by decide)
  have nD := nD.fr fr9 (by decide) (by decide)
  have nLo := nLo.fr fr9 (by decide) (by decide)
  have nUp := nUp.fr fr9 (by decide) (by decide)
  have hS := hS.fr fr9 (by decide) (by decide) (by decide)
  have hq := hq.fr fr9 (by decide)
  have fr := fr.tr fr9 (by decide)
  refine w_ifb_eq 36 dX11_set_12 (by decide) (fun c1 => ?_) (fun c1 => ?_)
  · exact absurd c1 (by decide)
  · have hP0 := p_pos w
    refine v_aload_n dX11_set_15 rfl ?_
    refine v_get fX11_24 dX11_set_16 h_47 (by decide) rfl ?_
    refine v_iload_n dX11_set_19 rfl ?_
    refine v_iload_n dX11_set_20 rfl ?_
    refine w_nast dX11_set_21 h_48 a1 (by omega) (by omega) (by decide) w (by omega) (fun H1 eH1 => ?_)
    obtain ⟨F1, eF1⟩ : ∃ zz9, zz9 = zup wd a1 w := ⟨_, rfl⟩
    rw [← eF1] at eH1
    have h_48 : H1 48 = aN 32 F1 := zf_same eH1
    have h_47 := (zf_ne eH1 (by decide)).trans h_47
    have h_49 := (zf_ne eH1 (by decide)).trans h_49
    have fr := fr.put eH1 (by simp)
    have fz : zFr [48] G1 H1 := zFr.put zFr.rf eH1 (by simp)
    have h_58 := (fz 58 (by decide)).trans h_58
    have h_66 := (fz 66 (by decide)).trans h_66
    have h_67 := (fz 67 (by decide)).trans h_67
    have h_68 := (fz 68 (by decide)).trans h_68
    have h_73 := (fz 73 (by decide)).trans h_73
    have nA := nA.fr fz (by decide) (by decide)
    have nB := nB.fr fz (by decide) (by decide)
    have nL := nL.fr fz (by decide) (by decide)
    have nR := nR.fr fz (by decide) (by decide)
    have nP := nP.fr fz (by decide) (by decide)
    have nS := nS.fr fz (by decide) (by decide)
    have nN := nN.fr fz (by decide) (by decide)
    have nD := nD.fr fz (by decide) (by decide)
    have nLo := nLo.fr fz (by decide) (by decide)
    have nUp := nUp.fr fz (by decide) (by decide)
    have hS := hS.fr fz (by decide) (by decide) (by decide)
    have hq := hq.fr fz (by decide)
    refine v_aload_n dX11_set_22 rfl ?_
    refine v_get fX11_20 dX11_set_23 h_47 (by decide) rfl ?_
    refine v_iload_n dX11_set_26 rfl ?_
    refine v_iload_n dX11_set_27 rfl ?_
    refine w_i2l dX11_set_28 (by omega) ?_
    refine v_lconst (jL 1) dX11_set_29 rfl ?_
    refine v_iload_n dX11_set_30 rfl ?_
    refine w_lshl dX11_set_31 w (2 ^ w) rfl (by omega) (by omega) ?_
    refine w_el (2 ^ w:Nat) (ip w) ?_
    refine v_lconst (jL 1) dX11_set_32 rfl ?_
    refine w_lsub dX11_set_33 ?_
    refine w_landm dX11_set_34 w (2 ^ w) rfl (by omega) (by rw [ipw]) ?_
    refine w_el (b9 % (2 ^ w : Nat)) (by rw [ipw]) ?_
    have hm0 := Int.emod_nonneg b9 (show ((2 ^ w : Nat) : Int) ≠ 0 by omega)
    refine w_mast dX11_set_35 h_49 a1 (by omega) (by omega) (by decide) ((b9 % (2 ^ w : Nat)).toNat) (by rw [Int.toNat_of_nonneg hm0]) (fun H2 eH2 => ?_)
    obtain ⟨F2, eF2⟩ : ∃ zz9, zz9 = zup pt a1 ((b9 % (2 ^ w : Nat)).toNat) := ⟨_, rfl⟩
    rw [← eF2] at eH2
    have h_49 : H2 49 = aM 32 F2 := zf_same eH2
    have h_47 := (zf_ne eH2 (by decide)).trans h_47
    have h_48 := (zf_ne eH2 (by decide)).trans h_48
    have fr := fr.put eH2 (by simp)
    have fz2 : zFr [49] H1 H2 := zFr.put zFr.rf eH2 (by simp)
    have h_58 := (fz2 58 (by decide)).trans h_58
    have h_66 := (fz2 66 (by decide)).trans h_66
    have h_67 := (fz2 67 (by decide)).trans h_67
    have h_68 := (fz2 68 (by decide)).trans h_68
    have h_73 := (fz2 73 (by decide)).trans h_73
    have nA := nA.fr fz2 (by decide) (by decide)
    have nB := nB.fr fz2 (by decide) (by decide)
    have nL := nL.fr fz2 (by decide) (by decide)
    have nR := nR.fr fz2 (by decide) (by decide)
    have nP := nP.fr fz2 (by decide) (by decide)
    have nS := nS.fr fz2 (by decide) (by decide)
    have nN := nN.fr fz2 (by decide) (by decide)
    have nD := nD.fr fz2 (by decide) (by decide)
    have nLo := nLo.fr fz2 (by decide) (by decide)
    have nUp := nUp.fr fz2 (by decide) (by decide)
    have hS := hS.fr fz2 (by decide) (by decide) (by decide)
    have hq := hq.fr fz2 (by decide)
    exact v_vret dX11_set_36 trivial (Nat.le_of_ble_eq_true rfl) (Nat.le_of_ble_eq_true rfl) ⟨rfl, rfl, by rw [← eF1, ← eF2]; exact ⟨_, _, _, _, _, _, _, _, _, _, _, _, h_47, h_48, h_49, ⟨nA, nB, nL, nR, nP, nS, nN, nD, nLo, nUp⟩, h_58, ⟨_, _, hS⟩, hq, h_66, ⟨_, h_67, hbb, htx⟩, ⟨_, h_68⟩, ⟨_, h_73⟩⟩, fr⟩
set_option maxHeartbeats 8000000 in
set_option maxRecDepth 100000 in
theorem p_Msetx {d n tc : Nat} {wd pt tf : Nat → Nat} {Q : Nat → Int} {qn : Nat → Bool} {L : List Nat} {th p w b9 : Int} {h : zH} (hM : MD h wd pt Q qn tf tc L th) (hr_p : -2147483648 ≤ p ∧ p < 2147483648) (hr_w : -2147483648 ≤ w ∧ w < 2147483648) (hx : (isP p && isW w) = false) (hd : 2 ≤ d) :
    zM yX11_set cX11_set 4 none d 0 0 [.ref 47, .int (iI p), .int (iI w), .int (iI b9)] h n (fun r9 h' n' => r9 = none ∧ n' = n ∧ MD h' wd pt Q qn tf tc L (thr (isP p) (isW w)) ∧ zFr MOL h h') := by
  obtain ⟨vs, vm, ve, sg, e, rt, at9, sz, dg, pw, tn, fm, h_47, h_48, h_49, ⟨nA, nB, nL, nR, nP, nS, nN, nD, nLo, nUp⟩, h_58, ⟨Q0, n0, hS⟩, hq, h_66, ⟨tx, h_67, hbb, htx⟩, ⟨fg, h_68⟩, ⟨fw, h_73⟩⟩ := id hM
  refine zM_of zyX11_set rfl (Nat.le_of_ble_eq_true rfl) (fun X hX => ?_)
  have fr : zFr MOL h h := zFr.rf
  refine v_aload_n dX11_set_0 rfl ?_
  refine v_iload_n dX11_set_1 rfl ?_
  refine v_cS (av := [.int (iI p)]) (st := [.ref 47]) zyX11_isPlace lX11_165 (p_isPlace (d := 1) hr_p) dX11_set_2 rfl rfl (Nat.le_of_ble_eq_true rfl) (by omega) (Nat.le_of_ble_eq_true rfl) (Nat.le_of_ble_eq_true rfl) (Or.inl (fun _ _ _ q => ZN q)) (fun r9 K1 n9 q9 => ?_)
  obtain ⟨rfl, q9n, q9h⟩ := q9
  have q9n := q9n.symm
  subst q9n
  have q9h := q9h.symm
  subst q9h
  refine w_ei (bz (isP p)) rfl ?_
  refine v_iload_n dX11_set_5 rfl ?_
  refine v_cS (av := [.int (iI w)]) (st := [.int (iI (bz (isP p))), .ref 47]) zyX11_isWidth lX11_169 (p_isWidth (d := 1) hr_w) dX11_set_6 rfl rfl (Nat.le_of_ble_eq_true rfl) (by omega) (Nat.le_of_ble_eq_true rfl) (Nat.le_of_ble_eq_true rfl) (Or.inl (fun _ _ _ q => ZN q)) (fun r9 K2 n9 q9 => ?_)
  obtain ⟨rfl, q9n, q9h⟩ := q9
  have q9n := q9n.symm
  subst q9n
  have q9h := q9h.symm
  subst q9h
  refine w_ei (bz (isW w)) rfl ?_
  refine v_cV (av := [.int (iI (bz (isP p))), .int (iI (bz (isW w)))]) (st := []) zyX11_goes lX11_172 h_47 rfl (p_goes (d := 1) h_47) dX11_set_9 rfl rfl (Nat.le_of_ble_eq_true rfl) (by omega) (Nat.le_of_ble_eq_true rfl) (Nat.le_of_ble_eq_true rfl) (Or.inl (fun _ _ _ q => ZN q)) (fun r9 G1 n9 q9 => ?_)
  obtain ⟨rfl, q9n, h_47, fr9⟩ := q9
  have q9n := q9n.symm
  subst q9n
  have h_48 := (fr9 48 (by decide)).trans h_48
  have h_49 := (fr9 49 (by decide)).trans h_49
  have h_58 := (fr9 58 (by decide)).trans h_58
  have h_66 := (fr9 66 (by decide)).trans h_66
  have h_67 := (fr9 67 (by decide)).trans h_67
  have h_68 := (fr9 68 (by decide)).trans h_68
  have h_73 := (fr9 73 (by decide)).trans h_73
  have nA := nA.fr fr9 (by decide) (by decide)
  have nB := nB.fr fr9 (by decide) (by decide)
  have nL := nL.fr fr9 (by decide) (by decide)
  have nR := nR.fr fr9 (by decide) (by decide)
  have nP := nP.fr fr9 (by decide) (by decide)
  have nS := nS.fr fr9 (by decide) (by decide)
  have nN := nN.fr fr9 (by decide) (by decide)
  have nD := nD.fr fr9 (by decide) (by decide)
  have nLo := nLo.fr fr9 (by decide) (by decide)
  have nUp := nUp.fr fr9 (by decide) (by decide)
  have hS := hS.fr fr9 (by decide) (by decide) (by decide)
  have hq := hq.fr fr9 (by decide)
  have fr := fr.tr fr9 (by decide)
  refine w_ifb_eq 36 dX11_set_12 (by decide) (fun c1 => ?_) (fun c1 => ?_)
  · skip
    exact v_vret dX11_set_36 trivial (Nat.le_of_ble_eq_true rfl) (Nat.le_of_ble_eq_true rfl) ⟨rfl, rfl, ⟨_, _, _, _, _, _, _, _, _, _, _, _, h_47, h_48, h_49, ⟨nA, nB, nL, nR, nP, nS, nN, nD, nLo, nUp⟩, h_58, ⟨_, _, hS⟩, hq, h_66, ⟨_, h_67, hbb, htx⟩, ⟨_, h_68⟩, ⟨_, h_73⟩⟩, fr⟩
  · rw [hx] at c1; exact absurd c1 (by decide)
noncomputable def mtk (wd pt : Nat → Nat) (a1 w : Nat) : Nat := if pt a1 = 2 ^ (wd a1 - 1) then 2 ^ (w - 1) else rdR (sgI (pvI (pt a1) (wd a1))) (CP (pvI (pt a1) (wd a1)).natAbs 1 (-120) 1) w
set_option maxHeartbeats 8000000 in
set_option maxRecDepth 100000 in
theorem p_Mtake {d n tc a1 a3 w : Nat} {wd pt tf : Nat → Nat} {Q : Nat → Int} {qn : Nat → Bool} {L : List Nat} {th : Int} {h : zH} (hM : MD h wd pt Q qn tf tc L th) (hPL : PL wd pt) (h1 : a1 < 32) (h3 : a3 < 32) (hw : 3 ≤ w ∧ w ≤ 32) (hd : 7 ≤ d) :
    zM yX11_take cX11_take 5 none d 0 0 [.ref 47, .int (iI (a1:Nat)), .int (iI (a3:Nat)), .int (iI (w:Nat))] h n (fun r9 h' n' => r9 = none ∧ n' = n ∧ MD h' (zup wd a3 w) (zup pt a3 (mtk wd pt a1 w)) Q qn tf tc L 0 ∧ zFr MOL h h') := by
  obtain ⟨vs, vm, ve, sg, e, rt, at9, sz, dg, pw, tn, fm, h_47, h_48, h_49, ⟨nA, nB, nL, nR, nP, nS, nN, nD, nLo, nUp⟩, h_58, ⟨Q0, n0, hS⟩, hq, h_66, ⟨tx, h_67, hbb, htx⟩, ⟨fg, h_68⟩, ⟨fw, h_73⟩⟩ := id hM
  have w1 := hPL a1 h1
  refine zM_of zyX11_take rfl (Nat.le_of_ble_eq_true rfl) (fun X hX => ?_)
  have fr : zFr MOL h h := zFr.rf
  refine v_aload_n dX11_take_0 rfl ?_
  refine v_iload_n dX11_take_1 rfl ?_
  refine v_cS (av := [.int (iI (a1:Nat))]) (st := [.ref 47]) zyX11_isPlace lX11_165 (p_isPlaceT (d := 6) h1) dX11_take_2 rfl rfl (Nat.le_of_ble_eq_true rfl) (by omega) (Nat.le_of_ble_eq_true rfl) (Nat.le_of_ble_eq_true rfl) (Or.inl (fun _ _ _ q => ZN q)) (fun r9 K1 n9 q9 => ?_)
  obtain ⟨rfl, q9n, q9h⟩ := q9
  have q9n := q9n.symm
  subst q9n
  have q9h := q9h.symm
  subst q9h
  refine w_ifb_eq 19 dX11_take_5 (by decide) (fun y1 => ?_) (fun y1 => ?_)
  · exact absurd y1 (by decide)
  · skip
    refine v_iload_n dX11_take_8 rfl ?_
    refine v_cS (av := [.int (iI (a3:Nat))]) (st := [.ref 47]) zyX11_isPlace lX11_165 (p_isPlaceT (d := 6) h3) dX11_take_9 rfl rfl (Nat.le_of_ble_eq_true rfl) (by omega) (Nat.le_of_ble_eq_true rfl) (Nat.le_of_ble_eq_true rfl) (Or.inl (fun _ _ _ q => ZN q)) (fun r9 K2 n9 q9 => ?_)
    obtain ⟨rfl, q9n, q9h⟩ := q9
    have q9n := q9n.symm
    subst q9n
    have q9h := q9h.symm
    subst q9h
    refine w_ifb_eq 19 dX11_take_12 (by decide) (fun y2 => ?_) (fun y2 => ?_)
    · exact absurd y2 (by decide)
    · skip
      refine v_iconst (iI 1) dX11_take_15 rfl ?_
      refine v_goto 20 dX11_take_16 (by decide) ?_
      refine w_ei (bz true) rfl ?_
      refine v_iload_n dX11_take_20 rfl ?_
      refine v_cS (av := [.int (iI (w:Nat))]) (st := [.int (iI (bz true)), .ref 47]) zyX11_isWidth lX11_169 (p_isWidthT (d := 6) hw) dX11_take_21 rfl rfl (Nat.le_of_ble_eq_true rfl) (by omega) (Nat.le_of_ble_eq_true rfl) (Nat.le_of_ble_eq_true rfl) (Or.inl (fun _ _ _ q => ZN q)) (fun r9 K3 n9 q9 => ?_)
      obtain ⟨rfl, q9n, q9h⟩ := q9
      have q9n := q9n.symm
      subst q9n
      have q9h := q9h.symm
      subst q9h
      refine v_cV (av := [.int (iI (bz true)), .int (iI (bz true))]) (st := []) zyX11_goes lX11_172 h_47 rfl (p_goesT (d := 6) h_47) dX11_take_24 rfl rfl (Nat.le_of_ble_eq_true rfl) (by omega) (Nat.le_of_ble_eq_true rfl) (Nat.le_of_ble_eq_true rfl) (Or.inl (fun _ _ _ q => ZN q)) (fun r9 G1 n9 q9 => ?_)
      obtain ⟨rfl, q9n, h_47, fr9⟩ := q9
      have q9n := q9n.symm
      subst q9n
      have h_48 := (fr9 48 (by decide)).trans h_48
      have h_49 := (fr9 49 (by decide)).trans h_49
      have h_58 := (fr9 58 (by decide)).trans h_58
      have h_66 := (fr9 66 (by decide)).trans h_66
      have h_67 := (fr9 67 (by decide)).trans h_67
      have h_68 := (fr9 68 (by decide)).trans h_68
      have h_73 := (fr9 73 (by decide)).trans h_73
      have nA := nA.fr fr9 (by decide) (by decide)
      have nB := nB.fr fr9 (by decide) (by decide)
      have nL := nL.fr fr9 (by decide) (by decide)
      have nR := nR.fr fr9 (by decide) (by decide)
      have nP := nP.fr fr9 (by decide) (by decide)
      have nS := nS.fr fr9 (by decide) (by decide)
      have nN := nN.fr fr9 (by decide) (by decide)
      have nD := nD.fr fr9 (by decide) (by decide)
      have nLo := nLo.fr fr9 (by decide) (by decide)
      have nUp := nUp.fr fr9 (by decide) (by decide)
      have hS := hS.fr fr9 (by decide) (by decide) (by decide)
      have hq := hq.fr fr9 (by decide)
      have fr := fr.tr fr9 (by decide)
      refine w_ifb_ne 31 dX11_take_27 (by decide) (fun c1 => ?_) (fun c1 => ?_)
      · skip
        refine v_aload_n dX11_take_31 rfl ?_
        refine v_iload_n dX11_take_32 rfl ?_
        refine v_cV (av := [.int (iI (a1:Nat))]) (st := []) zyX11_isNar lX11_176 h_47 rfl (p_misNar (d := 6) h_47 h_48 h_49 hPL h1) dX11_take_33 rfl rfl (Nat.le_of_ble_eq_true rfl) (by omega) (Nat.le_of_ble_eq_true rfl) (Nat.le_of_ble_eq_true rfl) (Or.inl (fun _ _ _ q => ZN q)) (fun r9 K4 n9 q9 => ?_)
        obtain ⟨rfl, q9n, q9h⟩ := q9
        have q9n := q9n.symm
        subst q9n
        have q9h := q9h.symm
        subst q9h
        obtain ⟨nr, enr⟩ : ∃ nr, decide (pt a1 = 2 ^ (wd a1 - 1)) = nr := ⟨_, rfl⟩
        refine w_ei (bz nr) (by rw [enr]) ?_
        refine v_istore (i := 4) (lv' := [(4, .int (iI (bz nr))), (0, .ref 47), (1, .int (iI (a1:Nat))), (2, .int (iI (a3:Nat))), (3, .int (iI (w:Nat)))]) dX11_take_36 (by decide) rfl ?_
        refine v_iload dX11_take_38 rfl ?_
        refine w_ifb_ne 48 dX11_take_40 (by decide) (fun x1 => ?_) (fun x1 => ?_)
        · have x2 := of_decide_eq_true (enr.trans x1)
          refine v_aload_n dX11_take_48 rfl ?_
          refine v_get fX11_24 dX11_take_49 h_47 (by decide) rfl ?_
          refine v_iload_n dX11_take_52 rfl ?_
          refine v_iload_n dX11_take_53 rfl ?_
          refine w_nast dX11_take_54 h_48 a3 (by omega) (by omega) (by decide) w (by omega) (fun H1 eH1 => ?_)
          obtain ⟨F1, eF1⟩ : ∃ zz9, zz9 = zup wd a3 w := ⟨_, rfl⟩
          rw [← eF1] at eH1
          have h_48 : H1 48 = aN 32 F1 := zf_same eH1
          have h_47 := (zf_ne eH1 (by decide)).trans h_47
          have h_49 := (zf_ne eH1 (by decide)).trans h_49
          have fr := fr.put eH1 (by simp)
          have fz : zFr [48] G1 H1 := zFr.put zFr.rf eH1 (by simp)
          have h_58 := (fz 58 (by decide)).trans h_58
          have h_66 := (fz 66 (by decide)).trans h_66
          have h_67 := (fz 67 (by decide)).trans h_67
          have h_68 := (fz 68 (by decide)).trans h_68
          have h_73 := (fz 73 (by decide)).trans h_73
          have nA := nA.fr fz (by decide) (by decide)
          have nB := nB.fr fz (by decide) (by decide)
          have nL := nL.fr fz (by decide) (by decide)
          have nR := nR.fr fz (by decide) (by decide)
          have nP := nP.fr fz (by decide) (by decide)
          have nS := nS.fr fz (by decide) (by decide)
          have nN := nN.fr fz (by decide) (by decide)
          have nD := nD.fr fz (by decide) (by decide)
          have nLo := nLo.fr fz (by decide) (by decide)
          have nUp := nUp.fr fz (by decide) (by decide)
          have hS := hS.fr fz (by decide) (by decide) (by decide)
          have hq := hq.fr fz (by decide)
          have ew : F1 a3 = w := by rw [eF1]; exact zup_same _ _ _
          refine v_iload dX11_take_55 rfl ?_
          refine w_ifb_eq 68 dX11_take_57 (by decide) (fun x3 => ?_) (fun x3 => ?_)
          · rw [x1] at x3; exact absurd x3 (by decide)
          · skip
            refine v_aload_n dX11_take_60 rfl ?_
            refine v_iload_n dX11_take_61 rfl ?_
            refine v_cV (av := [.int (iI (a3:Nat))]) (st := []) zyX11_becomeNar lX11_182 h_47 rfl (p_becomeNar (d := 6) h_47 h_48 h_49 h3 (by rw [ew]; exact hw)) dX11_take_62 rfl rfl (Nat.le_of_ble_eq_true rfl) (by omega) (Nat.le_of_ble_eq_true rfl) (Nat.le_of_ble_eq_true rfl) (Or.inl (fun _ _ _ q => ZN q)) (fun r9 G9 n9 q9 => ?_)
            obtain ⟨rfl, q9n, h_49, fr8⟩ := q9
            have q9n := q9n.symm
            subst q9n
            have h_47 := (fr8 47 (by decide)).trans h_47
            have h_48 := (fr8 48 (by decide)).trans h_48
            have h_58 := (fr8 58 (by decide)).trans h_58
            have h_66 := (fr8 66 (by decide)).trans h_66
            have h_67 := (fr8 67 (by decide)).trans h_67
            have h_68 := (fr8 68 (by decide)).trans h_68
            have h_73 := (fr8 73 (by decide)).trans h_73
            have nA := nA.fr fr8 (by decide) (by decide)
            have nB := nB.fr fr8 (by decide) (by decide)
            have nL := nL.fr fr8 (by decide) (by decide)
            have nR := nR.fr fr8 (by decide) (by decide)
            have nP := nP.fr fr8 (by decide) (by decide)
            have nS := nS.fr fr8 (by decide) (by decide)
            have nN := nN.fr fr8 (by decide) (by decide)
            have nD := nD.fr fr8 (by decide) (by decide)
            have nLo := nLo.fr fr8 (by decide) (by decide)
            have nUp := nUp.fr fr8 (by decide) (by decide)
            have hS := hS.fr fr8 (by decide) (by decide) (by decide)
            have hq := hq.fr fr8 (by decide)
            have fr := fr.tr fr8 (by decide)
            rw [ew] at h_49
            refine v_goto 73 dX11_take_65 (by decide) ?_
            exact v_vret dX11_take_73 trivial (Nat.le_of_ble_eq_true rfl) (Nat.le_of_ble_eq_true rfl) ⟨rfl, rfl, by unfold mtk; rw [if_pos x2, ← eF1]; exact ⟨_, _, _, _, _, _, _, _, _, _, _, _, h_47, h_48, h_49, ⟨nA, nB, nL, nR, nP, nS, nN, nD, nLo, nUp⟩, h_58, ⟨_, _, hS⟩, hq, h_66, ⟨_, h_67, hbb, htx⟩, ⟨_, h_68⟩, ⟨_, h_73⟩⟩, fr⟩
        · have x2 := of_decide_eq_false (enr.trans x1)
          refine v_aload_n dX11_take_43 rfl ?_
          refine v_iload_n dX11_take_44 rfl ?_
          refine v_cV (av := [.int (iI (a1:Nat))]) (st := []) zyX11_takeValue lX11_179 h_47 rfl (p_takeValue (d := 6) h_47 h_48 h_49 hPL h1 nA nB (by decide)) dX11_take_45 rfl rfl (Nat.le_of_ble_eq_true rfl) (by omega) (Nat.le_of_ble_eq_true rfl) (Nat.le_of_ble_eq_true rfl) (Or.inl (fun _ _ _ q => ZN q)) (fun r9 G2 n9 q9 => ?_)
          obtain ⟨rfl, q9n, ⟨s1, M1, E1, h_47, hl1, hm1, hx1, hy1, hA, hB⟩, fr8⟩ := q9
          have q9n := q9n.symm
          subst q9n
          obtain ⟨es, hsz⟩ := lk_sg hl1 x2
          have hsr := sgI_r (pvI (pt a1) (wd a1))
          rw [← es] at hsr
          have h_48 := (fr8 48 (by decide)).trans h_48
          have h_49 := (fr8 49 (by decide)).trans h_49
          have h_58 := (fr8 58 (by decide)).trans h_58
          have h_66 := (fr8 66 (by decide)).trans h_66
          have h_67 := (fr8 67 (by decide)).trans h_67
          have h_68 := (fr8 68 (by decide)).trans h_68
          have h_73 := (fr8 73 (by decide)).trans h_73
          have nL := nL.fr fr8 (by decide) (by decide)
          have nR := nR.fr fr8 (by decide) (by decide)
          have nP := nP.fr fr8 (by decide) (by decide)
          have nS := nS.fr fr8 (by decide) (by decide)
          have nN := nN.fr fr8 (by decide) (by decide)
          have nD := nD.fr fr8 (by decide) (by decide)
          have nLo := nLo.fr fr8 (by decide) (by decide)
          have nUp := nUp.fr fr8 (by decide) (by decide)
          have hS := hS.fr fr8 (by decide) (by decide) (by decide)
          have hq := hq.fr fr8 (by decide)
          have fr := fr.tr fr8 (by decide)
          have nA := hA.ns
          have nB := hB.ns
          refine v_aload_n dX11_take_48 rfl ?_
          refine v_get fX11_24 dX11_take_49 h_47 (by decide) rfl ?_
          refine v_iload_n dX11_take_52 rfl ?_
          refine v_iload_n dX11_take_53 rfl ?_
          refine w_nast dX11_take_54 h_48 a3 (by omega) (by omega) (by decide) w (by omega) (fun H1 eH1 => ?_)
          obtain ⟨F1, eF1⟩ : ∃ zz9, zz9 = zup wd a3 w := ⟨_, rfl⟩
          rw [← eF1] at eH1
          have h_48 : H1 48 = aN 32 F1 := zf_same eH1
          have h_47 := (zf_ne eH1 (by decide)).trans h_47
          have h_49 := (zf_ne eH1 (by decide)).trans h_49
          have fr := fr.put eH1 (by simp)
          have fz : zFr [48] G2 H1 := zFr.put zFr.rf eH1 (by simp)
          have h_58 := (fz 58 (by decide)).trans h_58
          have h_66 := (fz 66 (by decide)).trans h_66
          have h_67 := (fz 67 (by decide)).trans h_67
          have h_68 := (fz 68 (by decide)).trans h_68
          have h_73 := (fz 73 (by decide)).trans h_73
          have nA := nA.fr fz (by decide) (by decide)
          have nB := nB.fr fz (by decide) (by decide)
          have nL := nL.fr fz (by decide) (by decide)
          have nR := nR.fr fz (by decide) (by decide)
          have nP := nP.fr fz (by decide) (by decide)
          have nS := nS.fr fz (by decide) (by decide)
          have nN := nN.fr fz (by decide) (by decide)
          have nD := nD.fr fz (by decide) (by decide)
          have nLo := nLo.fr fz (by decide) (by decide)
          have nUp := nUp.fr fz (by decide) (by decide)
          have hS := hS.fr fz (by decide) (by decide) (by decide)
          have hq := hq.fr fz (by decide)
          have hA := hA.fr fz (by decide) (by decide)
          have hB := hB.fr fz (by decide) (by decide)
          have ew : F1 a3 = w := by rw [eF1]; exact zup_same _ _ _
          have hnM1 : nb M1 ≤ 32 := nb_le (k := 32) hm1
          refine v_iload dX11_take_55 rfl ?_
          refine w_ifb_eq 68 dX11_take_57 (by decide) (fun x3 => ?_) (fun x3 => ?_)
          · skip
            refine v_aload_n dX11_take_68 rfl ?_
            refine v_iload_n dX11_take_69 rfl ?_
            refine v_cV (av := [.int (iI (a3:Nat))]) (st := []) zyX11_become lX11_185 h_47 rfl (p_become (d := 6) (rt := 1) h_47 h_48 h_49 hA hB nL nR hsr (fun z => by have := hsz z; omega) (by omega) (by decide) (by decide) (by decide) (by omega) h3 (by rw [ew]; exact hw) (by decide)) dX11_take_70 rfl rfl (Nat.le_of_ble_eq_true rfl) (by omega) (Nat.le_of_ble_eq_true rfl) (Nat.le_of_ble_eq_true rfl) (Or.inl (fun _ _ _ q => ZN q)) (fun r9 G6 n9 q9 => ?_)
            obtain ⟨rfl, q9n, ⟨v7, v8, v9, h_47⟩, h_49, nL, nR, fr4⟩ := q9
            have q9n := q9n.symm
            subst q9n
            have h_48 := (fr4 48 (by decide)).trans h_48
            have h_58 := (fr4 58 (by decide)).trans h_58
            have h_66 := (fr4 66 (by decide)).trans h_66
            have h_67 := (fr4 67 (by decide)).trans h_67
            have h_68 := (fr4 68 (by decide)).trans h_68
            have h_73 := (fr4 73 (by decide)).trans h_73
            have nA := nA.fr fr4 (by decide) (by decide)
            have nB := nB.fr fr4 (by decide) (by decide)
            have nP := nP.fr fr4 (by decide) (by decide)
            have nS := nS.fr fr4 (by decide) (by decide)
            have nN := nN.fr fr4 (by decide) (by decide)
            have nD := nD.fr fr4 (by decide) (by decide)
            have nLo := nLo.fr fr4 (by decide) (by decide)
            have nUp := nUp.fr fr4 (by decide) (by decide)
            have hS := hS.fr fr4 (by decide) (by decide) (by decide)
            have hq := hq.fr fr4 (by decide)
            have fr := fr.tr fr4 (by decide)
            have e9 : rdR s1 (CP M1 1 E1 1) (F1 a3) = mtk wd pt a1 w := by
              unfold mtk
              rw [if_neg x2, ← es, ew]
              exact rd_c (fun z => by have h5 := hsz z; have := CP_a (b := 1) (c := 0) (rt := 1) h5.1 h5.2.1; rw [Int.add_zero, Int.add_zero] at this; exact this)
            rw [e9] at h_49
            exact v_vret dX11_take_73 trivial (Nat.le_of_ble_eq_true rfl) (Nat.le_of_ble_eq_true rfl) ⟨rfl, rfl, by rw [← eF1]; exact ⟨_, _, _, _, _, _, _, _, _, _, _, _, h_47, h_48, h_49, ⟨nA, nB, nL, nR, nP, nS, nN, nD, nLo, nUp⟩, h_58, ⟨_, _, hS⟩, hq, h_66, ⟨_, h_67, hbb, htx⟩, ⟨_, h_68⟩, ⟨_, h_73⟩⟩, fr⟩
          · rw [x1] at x3; exact absurd x3 (by decide)
      · exact absurd c1 (by decide)
