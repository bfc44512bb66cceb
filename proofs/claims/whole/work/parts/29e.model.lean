/-! The reference: ratios and powers -/
theorem tm2 (k : Int) : (k.tmod 2 = 0 ↔ k % 2 = 0) ∧ -1 ≤ k.tmod 2 ∧ k.tmod 2 ≤ 1 := by
  rcases Int.le_total 0 k with q | q
  · rw [Int.tmod_eq_emod_of_nonneg q]; omega
  · have e : k.tmod 2 = -((-k) % 2) := by
      rw [show k = -(-k) from by omega, Int.neg_tmod, Int.tmod_eq_emod_of_nonneg (by omega)]; simp
    rw [e]; omega
theorem CP_up {M b t rt : Nat} {e : Int} : CP (M * 2 ^ t) b (e - t) rt = CP M b e rt := by
  funext u w
  unfold CP
  obtain ⟨s, es⟩ : ∃ s, e - t - pE u w * rt = s := ⟨_, rfl⟩
  rw [cpr_xy (e := e - t) (X := s.toNat) (Y := (-s).toNat) (by omega), cpr_xy (e := e) (X := s.toNat + t) (Y := (-s).toNat) (by omega), Nat.pow_add, Nat.mul_comm (2 ^ s.toNat), ← Nat.mul_assoc]
theorem CP_dn {M b t rt : Nat} {e : Int} : CP b (M * 2 ^ t) (e + t) rt = CP b M e rt := by
  funext u w
  unfold CP
  obtain ⟨s, es⟩ : ∃ s, e - pE u w * rt = s := ⟨_, rfl⟩
  rw [cpr_xy (e := e + t) (X := s.toNat + t) (Y := (-s).toNat) (by omega), cpr_xy (e := e) (X := s.toNat + t) (Y := t + (-s).toNat) (by omega), Nat.pow_add 2 t]
  congr 1
  generalize 2 ^ t = A
  generalize 2 ^ (-s).toNat = B
  generalize pM u w ^ rt = D
  rw [Nat.mul_right_comm M A D, Nat.mul_assoc, Nat.mul_assoc]
noncomputable def mra (wd : Nat → Nat) (a1 : Nat) (x y : Int) : Nat := if y = 0 then 2 ^ (wd a1 - 1) else rdR (if x = 0 then 0 else if decide (x < 0) = decide (y < 0) then 1 else -1) (CP x.natAbs y.natAbs 0 1) (wd a1)
set_option maxHeartbeats 8000000 in
set_option maxRecDepth 100000 in
theorem p_Mratio {d n tc a1 : Nat} {wd pt tf : Nat → Nat} {Q : Nat → Int} {qn : Nat → Bool} {L : List Nat} {th x y : Int} {h : zH} (hM : MD h wd pt Q qn tf tc L th) (hPL : PL wd pt) (h1 : a1 < 32) (hx : -9223372036854775808 ≤ x ∧ x < 9223372036854775808) (hy : -9223372036854775808 ≤ y ∧ y < 9223372036854775808) (hd : 7 ≤ d) :
    zM yX11_ratio cX11_ratio 6 none d 0 0 [.ref 47, .int (iI (a1:Nat)), .long (jL x), .long (jL y)] h n (fun r9 h' n' => r9 = none ∧ n' = n ∧ MD h' wd (zup pt a1 (mra wd a1 x y)) Q qn tf tc L 0 ∧ zFr MOL h h') := by
  obtain ⟨vs, vm, ve, sg, e, rt, at9, sz, dg, pw, tn, fm, h_47, h_48, h_49, ⟨nA, nB, nL, nR, nP, nS, nN, nD, nLo, nUp⟩, h_58, ⟨Q0, n0, hS⟩, hq, h_66, ⟨tx, h_67, hbb, htx⟩, ⟨fg, h_68⟩, ⟨fw, h_73⟩⟩ := id hM
  have w1 := hPL a1 h1
  refine zM_of zyX11_ratio rfl (Nat.le_of_ble_eq_true rfl) (fun X hX => ?_)
  have fr : zFr MOL h h := zFr.rf
  refine v_aload_n dX11_ratio_0 rfl ?_
  refine v_iload_n dX11_ratio_1 rfl ?_
  refine v_cS (av := [.int (iI (a1:Nat))]) (st := [.ref 47]) zyX11_isPlace lX11_165 (p_isPlaceT (d := 6) h1) dX11_ratio_2 rfl rfl (Nat.le_of_ble_eq_true rfl) (by omega) (Nat.le_of_ble_eq_true rfl) (Nat.le_of_ble_eq_true rfl) (Or.inl (fun _ _ _ q => ZN q)) (fun r9 K1 n9 q9 => ?_)
  obtain ⟨rfl, q9n, q9h⟩ := q9
  have q9n := q9n.symm
  subst q9n
  have q9h := q9h.symm
  subst q9h
  refine v_iconst (iI 1) dX11_ratio_5 rfl ?_
  refine w_ei (bz true) rfl ?_
  refine v_cV (av := [.int (iI (bz true)), .int (iI (bz true))]) (st := []) zyX11_goes lX11_172 h_47 rfl (p_goesT (d := 6) h_47) dX11_ratio_6 rfl rfl (Nat.le_of_ble_eq_true rfl) (by omega) (Nat.le_of_ble_eq_true rfl) (Nat.le_of_ble_eq_true rfl) (Or.inl (fun _ _ _ q => ZN q)) (fun r9 G1 n9 q9 => ?_)
  obtain ⟨rfl, q9n, h_47, fr9⟩ := q9
  have q9n := q9n.symm
  subst q9n
  have h_48 := (fr9 48 (by decide)).trans h_48
  have h_49 := (fr9 49 (by decide)).trans h_49
  have h_58 := (fr9 58 (by decide)).trans h_58
  have h_66 := (fr9 66 (by decide)).trans h_66
  have h_67 := (fr9 67 (by decide)).trans h_67
  have h_68 := (fr9 68 (by decide)).trans h_68
  have h_73 := (fr9 73 (by decide)).trans h_73
  have nA := nA.fr fr9 (by decide) (by decide)
  have nB := nB.fr fr9 (by decide) (by decide)
  have nL := nL.fr fr9 (by decide) (by decide)
  have nR := nR.fr fr9 (by decide) (by decide)
  have nP := nP.fr fr9 (by decide) (by decide)
  have nS := nS.fr fr9 (by decide) (by decide)
  have nN := nN.fr fr9 (by decide) (by decide)
  have nD := nD.fr fr9 (by decide) (by decide)
  have nLo := nLo.fr fr9 (by decide) (by decide)
  have nUp := nUp.fr fr9 (by decide) (by decide)
  have hS := hS.fr fr9 (by decide) (by decide) (by decide)
  have hq := hq.fr fr9 (by decide)
  have fr := fr.tr fr9 (by decide)
  refine w_ifb_ne 13 dX11_ratio_9 (by decide) (fun c1 => ?_) (fun c1 => ?_)
  · skip
    refine v_lload dX11_ratio_13 rfl ?_
    refine v_lconst (jL 0) dX11_ratio_15 rfl ?_
    refine w_lcmp_ne 26 dX11_ratio_16 dX11_ratio_17 (by decide) (by omega) (by decide) (fun c2 => ?_) (fun c2 => ?_)
    · obtain ⟨s9, es9⟩ : ∃ s9, (if x = 0 then 0 else if decide (x < 0) = decide (y < 0) then 1 else -1) = s9 := ⟨_, rfl⟩
      have hs9 : -1 ≤ s9 ∧ s9 ≤ 1 := by rw [← es9]; split; omega; split <;> omega
      have hs0 : s9 ≠ 0 → x ≠ 0 := fun z z2 => z (by rw [← es9, if_pos z2])
      have j68 : (zV X (fun r9 h' n' => r9 = none ∧ n' = n ∧ MD h' wd (zup pt a1 (mra wd a1 x y)) Q qn tf tc L 0 ∧ zFr MOL h h') cX11_ratio 6 RX11 none d 0 0 68 [(0, .ref 47), (1, .int (iI (a1:Nat))), (2, .long (jL x)), (4, .long (jL y))] [.int (iI s9), .ref 47] G1 n 0 0) := by
        refine v_cV (av := [.int (iI s9)]) (st := []) zyX11_begin lX11_119 h_47 rfl (p_begin (d := 6) h_47 nA nB (by decide)) dX11_ratio_68 rfl rfl (Nat.le_of_ble_eq_true rfl) (by omega) (Nat.le_of_ble_eq_true rfl) (Nat.le_of_ble_eq_true rfl) (Or.inl (fun _ _ _ q => ZN q)) (fun r9 G2 n9 q9 => ?_)
        obtain ⟨rfl, q9n, h_47, hA, hB, fr8⟩ := q9
        have q9n := q9n.symm
        subst q9n
        have h_48 := (fr8 48 (by decide)).trans h_48
        have h_49 := (fr8 49 (by decide)).trans h_49
        have h_58 := (fr8 58 (by decide)).trans h_58
        have h_66 := (fr8 66 (by decide)).trans h_66
        have h_67 := (fr8 67 (by decide)).trans h_67
        have h_68 := (fr8 68 (by decide)).trans h_68
        have h_73 := (fr8 73 (by decide)).trans h_73
        have nL := nL.fr fr8 (by decide) (by decide)
        have nR := nR.fr fr8 (by decide) (by decide)
        have nP := nP.fr fr8 (by decide) (by decide)
        have nS := nS.fr fr8 (by decide) (by decide)
        have nN := nN.fr fr8 (by decide) (by decide)
        have nD := nD.fr fr8 (by decide) (by decide)
        have nLo := nLo.fr fr8 (by decide) (by decide)
        have nUp := nUp.fr fr8 (by decide) (by decide)
        have hS := hS.fr fr8 (by decide) (by decide) (by decide)
        have hq := hq.fr fr8 (by decide)
        have fr := fr.tr fr8 (by decide)
        have j87 : ∀ z : Int, z % 18446744073709551616 = (x.natAbs : Int) → -9223372036854775808 ≤ z → z < 9223372036854775808 → (zV X (fun r9 h' n' => r9 = none ∧ n' = n ∧ MD h' wd (zup pt a1 (mra wd a1 x y)) Q qn tf tc L 0 ∧ zFr MOL h h') cX11_ratio 6 RX11 none d 0 0 87 [(0, .ref 47), (1, .int (iI (a1:Nat))), (2, .long (jL x)), (4, .long (jL y))] [.long (jL z), .ref 50] G2 n 0 0) := by
          intro z z1 z2 z3
          obtain ⟨_, _, h_50, -⟩ := id hA
          refine v_cV (av := [.long (jL z)]) (st := []) zyX9_set lX11_39 h_50 rfl (p_nset (d := 6) (x := x.natAbs) hA.ns (by omega) z1 ⟨z2, z3⟩) dX11_ratio_87 rfl rfl (Nat.le_of_ble_eq_true rfl) (by omega) (Nat.le_of_ble_eq_true rfl) (Nat.le_of_ble_eq_true rfl) (Or.inl (fun _ _ _ q => ZN q)) (fun r9 G3 n9 q9 => ?_)
          obtain ⟨rfl, q9n, hA, fr7⟩ := q9
          have q9n := q9n.symm
          subst q9n
          have hB := hB.fr fr7 (by decide) (by decide)
          have h_47 := (fr7 47 (by decide)).trans h_47
          have h_48 := (fr7 48 (by decide)).trans h_48
          have h_49 := (fr7 49 (by decide)).trans h_49
          have h_58 := (fr7 58 (by decide)).trans h_58
          have h_66 := (fr7 66 (by decide)).trans h_66
          have h_67 := (fr7 67 (by decide)).trans h_67
          have h_68 := (fr7 68 (by decide)).trans h_68
          have h_73 := (fr7 73 (by decide)).trans h_73
          have nL := nL.fr fr7 (by decide) (by decide)
          have nR := nR.fr fr7 (by decide) (by decide)
          have nP := nP.fr fr7 (by decide) (by decide)
          have nS := nS.fr fr7 (by decide) (by decide)
          have nN := nN.fr fr7 (by decide) (by decide)
          have nD := nD.fr fr7 (by decide) (by decide)
          have nLo := nLo.fr fr7 (by decide) (by decide)
          have nUp := nUp.fr fr7 (by decide) (by decide)
          have hS := hS.fr fr7 (by decide) (by decide) (by decide)
          have hq := hq.fr fr7 (by decide)
          have fr := fr.tr fr7 (by decide)
          have j109 : ∀ z : Int, z % 18446744073709551616 = (y.natAbs : Int) → -9223372036854775808 ≤ z → z < 9223372036854775808 → (zV X (fun r9 h' n' => r9 = none ∧ n' = n ∧ MD h' wd (zup pt a1 (mra wd a1 x y)) Q qn tf tc L 0 ∧ zFr MOL h h') cX11_ratio 6 RX11 none d 0 0 109 [(0, .ref 47), (1, .int (iI (a1:Nat))), (2, .long (jL x)), (4, .long (jL y))] [.long (jL z), .ref 52] G3 n 0 0) := by
            intro z z1 z2 z3
            obtain ⟨_, _, h_52, -⟩ := id hB
            refine v_cV (av := [.long (jL z)]) (st := []) zyX9_set lX11_39 h_52 rfl (p_nset (d := 6) (x := y.natAbs) hB.ns (by omega) z1 ⟨z2, z3⟩) dX11_ratio_109 rfl rfl (Nat.le_of_ble_eq_true rfl) (by omega) (Nat.le_of_ble_eq_true rfl) (Nat.le_of_ble_eq_true rfl) (Or.inl (fun _ _ _ q => ZN q)) (fun r9 G4 n9 q9 => ?_)
            obtain ⟨rfl, q9n, hB, fr6⟩ := q9
            have q9n := q9n.symm
            subst q9n
            have hA := hA.fr fr6 (by decide) (by decide)
            have h_47 := (fr6 47 (by decide)).trans h_47
            have h_48 := (fr6 48 (by decide)).trans h_48
            have h_49 := (fr6 49 (by decide)).trans h_49
            have h_58 := (fr6 58 (by decide)).trans h_58
            have h_66 := (fr6 66 (by decide)).trans h_66
            have h_67 := (fr6 67 (by decide)).trans h_67
            have h_68 := (fr6 68 (by decide)).trans h_68
            have h_73 := (fr6 73 (by decide)).trans h_73
            have nL := nL.fr fr6 (by decide) (by decide)
            have nR := nR.fr fr6 (by decide) (by decide)
            have nP := nP.fr fr6 (by decide) (by decide)
            have nS := nS.fr fr6 (by decide) (by decide)
            have nN := nN.fr fr6 (by decide) (by decide)
            have nD := nD.fr fr6 (by decide) (by decide)
            have nLo := nLo.fr fr6 (by decide) (by decide)
            have nUp := nUp.fr fr6 (by decide) (by decide)
            have hS := hS.fr fr6 (by decide) (by decide) (by decide)
            have hq := hq.fr fr6 (by decide)
            have fr := fr.tr fr6 (by decide)
            have nA := hA.ns
            have nB := hB.ns
            have hn1 : nb x.natAbs ≤ 64 := nb_le (k := 64) (by omega)
            have hn2 : nb y.natAbs ≤ 64 := nb_le (k := 64) (by omega)
            refine v_aload_n dX11_ratio_112 rfl ?_
            refine v_iload_n dX11_ratio_113 rfl ?_
            refine v_cV (av := [.int (iI (a1:Nat))]) (st := []) zyX11_become lX11_185 h_47 rfl (p_become (d := 6) (rt := 1) h_47 h_48 h_49 hA hB nL nR hs9 (fun z => by have := hs0 z; omega) (by omega) (by omega) (by omega) (by decide) (by decide) h1 ⟨w1.1, w1.2.1⟩ (by decide)) dX11_ratio_114 rfl rfl (Nat.le_of_ble_eq_true rfl) (by omega) (Nat.le_of_ble_eq_true rfl) (Nat.le_of_ble_eq_true rfl) (Or.inl (fun _ _ _ q => ZN q)) (fun r9 G6 n9 q9 => ?_)
            obtain ⟨rfl, q9n, ⟨v7, v8, v9, h_47⟩, h_49, nL, nR, fr4⟩ := q9
            have q9n := q9n.symm
            subst q9n
            have h_48 := (fr4 48 (by decide)).trans h_48
            have h_58 := (fr4 58 (by decide)).trans h_58
            have h_66 := (fr4 66 (by decide)).trans h_66
            have h_67 := (fr4 67 (by decide)).trans h_67
            have h_68 := (fr4 68 (by decide)).trans h_68
            have h_73 := (fr4 73 (by decide)).trans h_73
            have nA := nA.fr fr4 (by decide) (by decide)
            have nB := nB.fr fr4 (by decide) (by decide)
            have nP := nP.fr fr4 (by decide) (by decide)
            have nS := nS.fr fr4 (by decide) (by decide)
            have nN := nN.fr fr4 (by decide) (by decide)
            have nD := nD.fr fr4 (by decide) (by decide)
            have nLo := nLo.fr fr4 (by decide) (by decide)
            have nUp := nUp.fr fr4 (by decide) (by decide)
            have hS := hS.fr fr4 (by decide) (by decide) (by decide)
            have hq := hq.fr fr4 (by decide)
            have fr := fr.tr fr4 (by decide)
            have e9 : rdR s9 (CP x.natAbs y.natAbs 0 1) (wd a1) = mra wd a1 x y := by unfold mra; rw [if_neg c2, es9]
            rw [e9] at h_49
            exact v_vret dX11_ratio_117 trivial (Nat.le_of_ble_eq_true rfl) (Nat.le_of_ble_eq_true rfl) ⟨rfl, rfl, ⟨_, _, _, _, _, _, _, _, _, _, _, _, h_47, h_48, h_49, ⟨nA, nB, nL, nR, nP, nS, nN, nD, nLo, nUp⟩, h_58, ⟨_, _, hS⟩, hq, h_66, ⟨_, h_67, hbb, htx⟩, ⟨_, h_68⟩, ⟨_, h_73⟩⟩, fr⟩
          refine v_aload_n dX11_ratio_90 rfl ?_
          refine v_get fX11_45 dX11_ratio_91 h_47 (by decide) rfl ?_
          refine v_lload dX11_ratio_94 rfl ?_
          refine v_lconst (jL 0) dX11_ratio_96 rfl ?_
          refine w_lcmp_ge 107 dX11_ratio_97 dX11_ratio_98 (by decide) (by omega) (by decide) (fun c4 => ?_) (fun c4 => ?_)
          · skip
            refine v_lload dX11_ratio_107 rfl ?_
            exact j109 y (by omega) (by omega) (by omega)
          · skip
            refine v_lload dX11_ratio_101 rfl ?_
            refine w_lneg dX11_ratio_103 ?_
            refine v_goto 109 dX11_ratio_104 (by decide) ?_
            refine w_topl (if y = -9223372036854775808 then y else -y) (by split <;> omega) ?_
            exact j109 _ (by split <;> omega) (by split <;> omega) (by split <;> omega)
        refine v_aload_n dX11_ratio_71 rfl ?_
        refine v_get fX11_35 dX11_ratio_72 h_47 (by decide) rfl ?_
        refine v_lload_n dX11_ratio_75 rfl ?_
        refine v_lconst (jL 0) dX11_ratio_76 rfl ?_
        refine w_lcmp_ge 86 dX11_ratio_77 dX11_ratio_78 (by decide) (by omega) (by decide) (fun c3 => ?_) (fun c3 => ?_)
        · skip
          refine v_lload_n dX11_ratio_86 rfl ?_
          exact j87 x (by omega) (by omega) (by omega)
        · skip
          refine v_lload_n dX11_ratio_81 rfl ?_
          refine w_lneg dX11_ratio_82 ?_
          refine v_goto 87 dX11_ratio_83 (by decide) ?_
          refine w_topl (if x = -9223372036854775808 then x else -x) (by split <;> omega) ?_
          exact j87 _ (by split <;> omega) (by split <;> omega) (by split <;> omega)
      have j60 : x ≠ 0 → ∀ b1 b2 : Bool, b1 = decide (x < 0) → b2 = decide (y < 0) → (zV X (fun r9 h' n' => r9 = none ∧ n' = n ∧ MD h' wd (zup pt a1 (mra wd a1 x y)) Q qn tf tc L 0 ∧ zFr MOL h h') cX11_ratio 6 RX11 none d 0 0 60 [(0, .ref 47), (1, .int (iI (a1:Nat))), (2, .long (jL x)), (4, .long (jL y))] [.int (iI (bz b2)), .int (iI (bz b1)), .ref 47] G1 n 0 0) := by
        intro hx0 b1 b2 e1 e2
        refine w_icmp_ne 67 dX11_ratio_60 (by decide) (bz_r _) (bz_r _) (fun c5 => ?_) (fun c5 => ?_)
        · skip
          refine v_iconst (iI (-1)) dX11_ratio_67 rfl ?_
          refine w_ei s9 (by rw [← es9, if_neg hx0, if_neg (fun z => c5 (by rw [e1, e2, z]))]) ?_
          exact j68
        · have e6 : decide (x < 0) = decide (y < 0) := by
            rw [← e1, ← e2]
            cases b1 <;> cases b2 <;> first | rfl | exact absurd c5 (by decide)
          refine v_iconst (iI 1) dX11_ratio_63 rfl ?_
          refine v_goto 68 dX11_ratio_64 (by decide) ?_
          refine w_ei s9 (by rw [← es9, if_neg hx0, if_pos e6]) ?_
          exact j68
      have j48 : x ≠ 0 → ∀ b1 : Bool, b1 = decide (x < 0) → (zV X (fun r9 h' n' => r9 = none ∧ n' = n ∧ MD h' wd (zup pt a1 (mra wd a1 x y)) Q qn tf tc L 0 ∧ zFr MOL h h') cX11_ratio 6 RX11 none d 0 0 48 [(0, .ref 47), (1, .int (iI (a1:Nat))), (2, .long (jL x)), (4, .long (jL y))] [.int (iI (bz b1)), .ref 47] G1 n 0 0) := by
        intro hx0 b1 e1
        refine v_lload dX11_ratio_48 rfl ?_
        refine v_lconst (jL 0) dX11_ratio_50 rfl ?_
        refine w_lcmp_ge 59 dX11_ratio_51 dX11_ratio_52 (by decide) (by omega) (by decide) (fun c5 => ?_) (fun c5 => ?_)
        · skip
          refine v_iconst (iI 0) dX11_ratio_59 rfl ?_
          refine w_ei (bz false) rfl ?_
          exact j60 hx0 b1 false e1 (decide_eq_false (by omega)).symm
        · skip
          refine v_iconst (iI 1) dX11_ratio_55 rfl ?_
          refine v_goto 60 dX11_ratio_56 (by decide) ?_
          refine w_ei (bz true) rfl ?_
          exact j60 hx0 b1 true e1 (decide_eq_true (by omega)).symm
      refine v_aload_n dX11_ratio_26 rfl ?_
      refine v_lload_n dX11_ratio_27 rfl ?_
      refine v_lconst (jL 0) dX11_ratio_28 rfl ?_
      refine w_lcmp_ne 37 dX11_ratio_29 dX11_ratio_30 (by decide) (by omega) (by decide) (fun c3 => ?_) (fun c3 => ?_)
      · skip
        refine v_lload_n dX11_ratio_37 rfl ?_
        refine v_lconst (jL 0) dX11_ratio_38 rfl ?_
        refine w_lcmp_ge 47 dX11_ratio_39 dX11_ratio_40 (by decide) (by omega) (by decide) (fun c4 => ?_) (fun c4 => ?_)
        · skip
          refine v_iconst (iI 0) dX11_ratio_47 rfl ?_
          refine w_ei (bz false) rfl ?_
          exact j48 c3 false (decide_eq_false (by omega)).symm
        · skip
          refine v_iconst (iI 1) dX11_ratio_43 rfl ?_
          refine v_goto 48 dX11_ratio_44 (by decide) ?_
          refine w_ei (bz true) rfl ?_
          exact j48 c3 true (decide_eq_true (by omega)).symm
      · skip
        refine v_iconst (iI 0) dX11_ratio_33 rfl ?_
        refine v_goto 68 dX11_ratio_34 (by decide) ?_
        refine w_ei s9 (by rw [← es9, if_pos c3]) ?_
        exact j68
    · skip
      refine v_aload_n dX11_ratio_20 rfl ?_
      refine v_iload_n dX11_ratio_21 rfl ?_
      refine v_cV (av := [.int (iI (a1:Nat))]) (st := []) zyX11_becomeNar lX11_182 h_47 rfl (p_becomeNar (d := 6) h_47 h_48 h_49 h1 ⟨w1.1, w1.2.1⟩) dX11_ratio_22 rfl rfl (Nat.le_of_ble_eq_true rfl) (by omega) (Nat.le_of_ble_eq_true rfl) (Nat.le_of_ble_eq_true rfl) (Or.inl (fun _ _ _ q => ZN q)) (fun r9 G9 n9 q9 => ?_)
      obtain ⟨rfl, q9n, h_49, fr8⟩ := q9
      have q9n := q9n.symm
      subst q9n
      have h_47 := (fr8 47 (by decide)).trans h_47
      have h_48 := (fr8 48 (by decide)).trans h_48
      have h_58 := (fr8 58 (by decide)).trans h_58
      have h_66 := (fr8 66 (by decide)).trans h_66
      have h_67 := (fr8 67 (by decide)).trans h_67
      have h_68 := (fr8 68 (by decide)).trans h_68
      have h_73 := (fr8 73 (by decide)).trans h_73
      have nA := nA.fr fr8 (by decide) (by decide)
      have nB := nB.fr fr8 (by decide) (by decide)
      have nL := nL.fr fr8 (by decide) (by decide)
      have nR := nR.fr fr8 (by decide) (by decide)
      have nP := nP.fr fr8 (by decide) (by decide)
      have nS := nS.fr fr8 (by decide) (by decide)
      have nN := nN.fr fr8 (by decide) (by decide)
      have nD := nD.fr fr8 (by decide) (by decide)
      have nLo := nLo.fr fr8 (by decide) (by decide)
      have nUp := nUp.fr fr8 (by decide) (by decide)
      have hS := hS.fr fr8 (by decide) (by decide) (by decide)
      have hq := hq.fr fr8 (by decide)
      have fr := fr.tr fr8 (by decide)
      exact v_vret dX11_ratio_25 trivial (Nat.le_of_ble_eq_true rfl) (Nat.le_of_ble_eq_true rfl) ⟨rfl, rfl, by unfold mra; rw [if_pos c2]; exact ⟨_, _, _, _, _, _, _, _, _, _, _, _, h_47, h_48, h_49, ⟨nA, nB, nL, nR, nP, nS, nN, nD, nLo, nUp⟩, h_58, ⟨_, _, hS⟩, hq, h_66, ⟨_, h_67, hbb, htx⟩, ⟨_, h_68⟩, ⟨_, h_73⟩⟩, fr⟩
  · exact absurd c1 (by decide)
set_option maxHeartbeats 8000000 in
set_option maxRecDepth 100000 in
theorem p_Mratiox {d n tc : Nat} {wd pt tf : Nat → Nat} {Q : Nat → Int} {qn : Nat → Bool} {L : List Nat} {th p x y : Int} {h : zH} (hM : MD h wd pt Q qn tf tc L th) (hr_p : -2147483648 ≤ p ∧ p < 2147483648) (hx : isP p = false) (hd : 2 ≤ d) :
    zM yX11_ratio cX11_ratio 6 none d 0 0 [.ref 47, .int (iI p), .long (jL x), .long (jL y)] h n (fun r9 h' n' => r9 = none ∧ n' = n ∧ MD h' wd pt Q qn tf tc L 1 ∧ zFr MOL h h') := by
  obtain ⟨vs, vm, ve, sg, e, rt, at9, sz, dg, pw, tn, fm, h_47, h_48, h_49, ⟨nA, nB, nL, nR, nP, nS, nN, nD, nLo, nUp⟩, h_58, ⟨Q0, n0, hS⟩, hq, h_66, ⟨tx, h_67, hbb, htx⟩, ⟨fg, h_68⟩, ⟨fw, h_73⟩⟩ := id hM
  refine zM_of zyX11_ratio rfl (Nat.le_of_ble_eq_true rfl) (fun X hX => ?_)
  have fr : zFr MOL h h := zFr.rf
  refine v_aload_n dX11_ratio_0 rfl ?_
  refine v_iload_n dX11_ratio_1 rfl ?_
  refine v_cS (av := [.int (iI p)]) (st := [.ref 47]) zyX11_isPlace lX11_165 (p_isPlace (d := 1) hr_p) dX11_ratio_2 rfl rfl (Nat.le_of_ble_eq_true rfl) (by omega) (Nat.le_of_ble_eq_true rfl) (Nat.le_of_ble_eq_true rfl) (Or.inl (fun _ _ _ q => ZN q)) (fun r9 K1 n9 q9 => ?_)
  obtain ⟨rfl, q9n, q9h⟩ := q9
  have q9n := q9n.symm
  subst q9n
  have q9h := q9h.symm
  subst q9h
  refine w_ei (bz (isP p)) rfl ?_
  refine v_iconst (iI 1) dX11_ratio_5 rfl ?_
  refine w_ei (bz true) rfl ?_
  refine v_cV (av := [.int (iI (bz (isP p))), .int (iI (bz true))]) (st := []) zyX11_goes lX11_172 h_47 rfl (p_goes (d := 1) h_47) dX11_ratio_6 rfl rfl (Nat.le_of_ble_eq_true rfl) (by omega) (Nat.le_of_ble_eq_true rfl) (Nat.le_of_ble_eq_true rfl) (Or.inl (fun _ _ _ q => ZN q)) (fun r9 G1 n9 q9 => ?_)
  obtain ⟨rfl, q9n, h_47, fr9⟩ := q9
  have q9n := q9n.symm
  subst q9n
  rw [hx] at h_47
  have h_48 := (fr9 48 (by decide)).trans h_48
  have h_49 := (fr9 49 (by decide)).trans h_49
  have h_58 := (fr9 58 (by decide)).trans h_58
  have h_66 := (fr9 66 (by decide)).trans h_66
  have h_67 := (fr9 67 (by decide)).trans h_67
  have h_68 := (fr9 68 (by decide)).trans h_68
  have h_73 := (fr9 73 (by decide)).trans h_73
  have nA := nA.fr fr9 (by decide) (by decide)
  have nB := nB.fr fr9 (by decide) (by decide)
  have nL := nL.fr fr9 (by decide) (by decide)
  have nR := nR.fr fr9 (by decide) (by decide)
  have nP := nP.fr fr9 (by decide) (by decide)
  have nS := nS.fr fr9 (by decide) (by decide)
  have nN := nN.fr fr9 (by decide) (by decide)
  have nD := nD.fr fr9 (by decide) (by decide)
  have nLo := nLo.fr fr9 (by decide) (by decide)
  have nUp := nUp.fr fr9 (by decide) (by decide)
  have hS := hS.fr fr9 (by decide) (by decide) (by decide)
  have hq := hq.fr fr9 (by decide)
  have fr := fr.tr fr9 (by decide)
  refine w_ifb_ne 13 dX11_ratio_9 (by decide) (fun c1 => ?_) (fun c1 => ?_)
  · rw [hx] at c1; exact absurd c1 (by decide)
  · skip
    exact v_vret dX11_ratio_12 trivial (Nat.le_of_ble_eq_true rfl) (Nat.le_of_ble_eq_true rfl) ⟨rfl, rfl, ⟨_, _, _, _, _, _, _, _, _, _, _, _, h_47, h_48, h_49, ⟨nA, nB, nL, nR, nP, nS, nN, nD, nLo, nUp⟩, h_58, ⟨_, _, hS⟩, hq, h_66, ⟨_, h_67, hbb, htx⟩, ⟨_, h_68⟩, ⟨_, h_73⟩⟩, fr⟩
noncomputable def mpw (wd pt : Nat → Nat) (a1 : Nat) (k9 : Int) (a3 : Nat) : Nat := if pt a1 = 2 ^ (wd a1 - 1) ∨ (pt a1 = 0 ∧ k9 < 0) then 2 ^ (wd a3 - 1) else rdR (if k9 = 0 then 1 else if k9 % 2 = 0 then sgI (pvI (pt a1) (wd a1)) * sgI (pvI (pt a1) (wd a1)) else sgI (pvI (pt a1) (wd a1))) (if 0 ≤ k9 then CP ((pvI (pt a1) (wd a1)).natAbs ^ k9.natAbs) 1 (-((120 * k9.natAbs : Nat) : Int)) 1 else CP 1 ((pvI (pt a1) (wd a1)).natAbs ^ k9.natAbs) ((120 * k9.natAbs : Nat) : Int) 1) (wd a3)
theorem pw_up {U M K : Nat} {E : Int} (hU : U = M * 2 ^ (E + 120).toNat) (hE : -120 ≤ E) : CP (M ^ K) 1 (E * (K : Int)) 1 = CP (U ^ K) 1 (-((120 * K : Nat) : Int)) 1 := by
  have e1 : U ^ K = M ^ K * 2 ^ ((E + 120).toNat * K) := by rw [hU, Nat.mul_pow, ← Nat.pow_mul]
  have e2 : E * (K : Int) - (((E + 120).toNat * K : Nat) : Int) = -((120 * K : Nat) : Int) := by
    rw [Int.natCast_mul, Int.toNat_of_nonneg (by omega), Int.add_mul, Int.natCast_mul]; omega
  rw [e1, ← e2, CP_up]
theorem pw_dn {U M K : Nat} {E : Int} (hU : U = M * 2 ^ (E + 120).toNat) (hE : -120 ≤ E) : CP 1 (M ^ K) (-(E * (K : Int))) 1 = CP 1 (U ^ K) ((120 * K : Nat) : Int) 1 := by
  have e1 : U ^ K = M ^ K * 2 ^ ((E + 120).toNat * K) := by rw [hU, Nat.mul_pow, ← Nat.pow_mul]
  have e2 : -(E * (K : Int)) + (((E + 120).toNat * K : Nat) : Int) = ((120 * K : Nat) : Int) := by
    rw [Int.natCast_mul, Int.toNat_of_nonneg (by omega), Int.add_mul, Int.natCast_mul]; omega
  rw [e1, ← e2, CP_dn]
set_option maxHeartbeats 8000000 in
set_option maxRecDepth 100000 in
theorem p_Mpower {d n tc a1 a3 : Nat} {wd pt tf : Nat → Nat} {Q : Nat → Int} {qn : Nat → Bool} {L : List Nat} {th k9 : Int} {h : zH} (hM : MD h wd pt Q qn tf tc L th) (hPL : PL wd pt) (h1 : a1 < 32) (hk : -16 ≤ k9 ∧ k9 ≤ 16) (h3 : a3 < 32) (hd : 7 ≤ d) :
    zM yX11_power cX11_power 7 none d 0 0 [.ref 47, .int (iI (a1:Nat)), .int (iI k9), .int (iI (a3:Nat))] h n (fun r9 h' n' => r9 = none ∧ n' = n ∧ MD h' wd (zup pt a3 (mpw wd pt a1 k9 a3)) Q qn tf tc L 0 ∧ zFr MOL h h') := by
  obtain ⟨vs, vm, ve, sg, e, rt, at9, sz, dg, pw, tn, fm, h_47, h_48, h_49, ⟨nA, nB, nL, nR, nP, nS, nN, nD, nLo, nUp⟩, h_58, ⟨Q0, n0, hS⟩, hq, h_66, ⟨tx, h_67, hbb, htx⟩, ⟨fg, h_68⟩, ⟨fw, h_73⟩⟩ := id hM
  have w1 := hPL a1 h1
  have w3 := hPL a3 h3
  have q1 : 2 ^ wd a1 ≤ 2 ^ 32 := Nat.pow_le_pow_right (by decide) w1.2.1
  have p1 : pt a1 < 4294967296 := Nat.lt_of_lt_of_le w1.2.2 q1
  refine zM_of zyX11_power rfl (Nat.le_of_ble_eq_true rfl) (fun X hX => ?_)
  have fr : zFr MOL h h := zFr.rf
  have nar84 : ∀ (H : zH), MD H wd pt Q qn tf tc L 0 → zFr MOL h H → (pt a1 = 2 ^ (wd a1 - 1) ∨ (pt a1 = 0 ∧ k9 < 0)) → (zV X (fun r9 h' n' => r9 = none ∧ n' = n ∧ MD h' wd (zup pt a3 (mpw wd pt a1 k9 a3)) Q qn tf tc L 0 ∧ zFr MOL h h') cX11_power 7 RX11 none d 0 0 84 [(0, .ref 47), (1, .int (iI (a1:Nat))), (2, .int (iI k9)), (3, .int (iI (a3:Nat))), (4, .int (iI (bz true)))] [] H n 0 0) := by
    intro H hM fr hn
    obtain ⟨vs, vm, ve, sg, e, rt, at9, sz, dg, pw, tn, fm, h_47, h_48, h_49, ⟨nA, nB, nL, nR, nP, nS, nN, nD, nLo, nUp⟩, h_58, ⟨Q0, n0, hS⟩, hq, h_66, ⟨tx, h_67, hbb, htx⟩, ⟨fg, h_68⟩, ⟨fw, h_73⟩⟩ := id hM
    refine v_aload_n dX11_power_84 rfl ?_
    refine v_iload_n dX11_power_85 rfl ?_
    refine v_cV (av := [.int (iI (a3:Nat))]) (st := []) zyX11_becomeNar lX11_182 h_47 rfl (p_becomeNar (d := 6) h_47 h_48 h_49 h3 ⟨w3.1, w3.2.1⟩) dX11_power_86 rfl rfl (Nat.le_of_ble_eq_true rfl) (by omega) (Nat.le_of_ble_eq_true rfl) (Nat.le_of_ble_eq_true rfl) (Or.inl (fun _ _ _ q => ZN q)) (fun r9 G9 n9 q9 => ?_)
    obtain ⟨rfl, q9n, h_49, fr8⟩ := q9
    have q9n := q9n.symm
    subst q9n
    have h_47 := (fr8 47 (by decide)).trans h_47
    have h_48 := (fr8 48 (by decide)).trans h_48
    have h_58 := (fr8 58 (by decide)).trans h_58
    have h_66 := (fr8 66 (by decide)).trans h_66
    have h_67 := (fr8 67 (by decide)).trans h_67
    have h_68 := (fr8 68 (by decide)).trans h_68
    have h_73 := (fr8 73 (by decide)).trans h_73
    have nA := nA.fr fr8 (by decide) (by decide)
    have nB := nB.fr fr8 (by decide) (by decide)
    have nL := nL.fr fr8 (by decide) (by decide)
    have nR := nR.fr fr8 (by decide) (by decide)
    have nP := nP.fr fr8 (by decide) (by decide)
    have nS := nS.fr fr8 (by decide) (by decide)
    have nN := nN.fr fr8 (by decide) (by decide)
    have nD := nD.fr fr8 (by decide) (by decide)
    have nLo := nLo.fr fr8 (by decide) (by decide)
    have nUp := nUp.fr fr8 (by decide) (by decide)
    have hS := hS.fr fr8 (by decide) (by decide) (by decide)
    have hq := hq.fr fr8 (by decide)
    have fr := fr.tr fr8 (by decide)
    exact v_vret dX11_power_89 trivial (Nat.le_of_ble_eq_true rfl) (Nat.le_of_ble_eq_true rfl) ⟨rfl, rfl, by unfold mpw; rw [if_pos hn]; exact ⟨_, _, _, _, _, _, _, _, _, _, _, _, h_47, h_48, h_49, ⟨nA, nB, nL, nR, nP, nS, nN, nD, nLo, nUp⟩, h_58, ⟨_, _, hS⟩, hq, h_66, ⟨_, h_67, hbb, htx⟩, ⟨_, h_68⟩, ⟨_, h_73⟩⟩, fr⟩
  refine v_aload_n dX11_power_0 rfl ?_
  refine v_iload_n dX11_power_1 rfl ?_
  refine v_cS (av := [.int (iI (a1:Nat))]) (st := [.ref 47]) zyX11_isPlace lX11_165 (p_isPlaceT (d := 6) h1) dX11_power_2 rfl rfl (Nat.le_of_ble_eq_true rfl) (by omega) (Nat.le_of_ble_eq_true rfl) (Nat.le_of_ble_eq_true rfl) (Or.inl (fun _ _ _ q => ZN q)) (fun r9 K1 n9 q9 => ?_)
  obtain ⟨rfl, q9n, q9h⟩ := q9
  have q9n := q9n.symm
  subst q9n
  have q9h := q9h.symm
  subst q9h
  refine w_ifb_eq 19 dX11_power_5 (by decide) (fun y1 => ?_) (fun y1 => ?_)
  · exact absurd y1 (by decide)
  · skip
    refine v_iload_n dX11_power_8 rfl ?_
    refine v_cS (av := [.int (iI (a3:Nat))]) (st := [.ref 47]) zyX11_isPlace lX11_165 (p_isPlaceT (d := 6) h3) dX11_power_9 rfl rfl (Nat.le_of_ble_eq_true rfl) (by omega) (Nat.le_of_ble_eq_true rfl) (Nat.le_of_ble_eq_true rfl) (Or.inl (fun _ _ _ q => ZN q)) (fun r9 K2 n9 q9 => ?_)
    obtain ⟨rfl, q9n, q9h⟩ := q9
    have q9n := q9n.symm
    subst q9n
    have q9h := q9h.symm
    subst q9h
    refine w_ifb_eq 19 dX11_power_12 (by decide) (fun y2 => ?_) (fun y2 => ?_)
    · exact absurd y2 (by decide)
    · skip
      refine v_iconst (iI 1) dX11_power_15 rfl ?_
      refine v_goto 20 dX11_power_16 (by decide) ?_
      refine w_ei (bz true) rfl ?_
      refine v_iload_n dX11_power_20 rfl ?_
      refine v_bipush (iI (-16)) dX11_power_21 rfl ?_
      refine w_icmp_lt 36 dX11_power_23 (by decide) (by omega) (by decide) (fun y3 => ?_) (fun y3 => ?_)
      · exact absurd y3 (by omega)
      · skip
        refine v_iload_n dX11_power_26 rfl ?_
        refine v_bipush (iI 16) dX11_power_27 rfl ?_
        refine w_icmp_gt 36 dX11_power_29 (by decide) (by omega) (by decide) (fun y4 => ?_) (fun y4 => ?_)
        · exact absurd y4 (by omega)
        · skip
          refine v_iconst (iI 1) dX11_power_32 rfl ?_
          refine v_goto 37 dX11_power_33 (by decide) ?_
          refine w_ei (bz true) rfl ?_
          refine v_cV (av := [.int (iI (bz true)), .int (iI (bz true))]) (st := []) zyX11_goes lX11_172 h_47 rfl (p_goesT (d := 6) h_47) dX11_power_37 rfl rfl (Nat.le_of_ble_eq_true rfl) (by omega) (Nat.le_of_ble_eq_true rfl) (Nat.le_of_ble_eq_true rfl) (Or.inl (fun _ _ _ q => ZN q)) (fun r9 G1 n9 q9 => ?_)
          obtain ⟨rfl, q9n, h_47, fr9⟩ := q9
          have q9n := q9n.symm
          subst q9n
          have h_48 := (fr9 48 (by decide)).trans h_48
          have h_49 := (fr9 49 (by decide)).trans h_49
          have h_58 := (fr9 58 (by decide)).trans h_58
          have h_66 := (fr9 66 (by decide)).trans h_66
          have h_67 := (fr9 67 (by decide)).trans h_67
          have h_68 := (fr9 68 (by decide)).trans h_68
          have h_73 := (fr9 73 (by decide)).trans h_73
          have nA := nA.fr fr9 (by decide) (by decide)
          have nB := nB.fr fr9 (by decide) (by decide)
          have nL := nL.fr fr9 (by decide) (by decide)
          have nR := nR.fr fr9 (by decide) (by decide)
          have nP := nP.fr fr9 (by decide) (by decide)
          have nS := nS.fr fr9 (by decide) (by decide)
          have nN := nN.fr fr9 (by decide) (by decide)
          have nD := nD.fr fr9 (by decide) (by decide)
          have nLo := nLo.fr fr9 (by decide) (by decide)
          have nUp := nUp.fr fr9 (by decide) (by decide)
          have hS := hS.fr fr9 (by decide) (by decide) (by decide)
          have hq := hq.fr fr9 (by decide)
          have fr := fr.tr fr9 (by decide)
          refine w_ifb_ne 44 dX11_power_40 (by decide) (fun c1 => ?_) (fun c1 => ?_)
          · skip
            refine v_aload_n dX11_power_44 rfl ?_
            refine v_iload_n dX11_power_45 rfl ?_
            refine v_cV (av := [.int (iI (a1:Nat))]) (st := []) zyX11_look lX11_112 h_47 rfl (p_look (d := 6) h_47 h_48 h_49 hPL h1 (by decide)) dX11_power_46 rfl rfl (Nat.le_of_ble_eq_true rfl) (by omega) (Nat.le_of_ble_eq_true rfl) (Nat.le_of_ble_eq_true rfl) (Or.inl (fun _ _ _ q => ZN q)) (fun r9 G2 n9 q9 => ?_)
            obtain ⟨rfl, q9n, ⟨s1, M1, E1, h_47, hl1, hm1, hx1, hy1⟩, fr8⟩ := q9
            have q9n := q9n.symm
            subst q9n
            have h_48 := (fr8 48 (by decide)).trans h_48
            have h_49 := (fr8 49 (by decide)).trans h_49
            have h_58 := (fr8 58 (by decide)).trans h_58
            have h_66 := (fr8 66 (by decide)).trans h_66
            have h_67 := (fr8 67 (by decide)).trans h_67
            have h_68 := (fr8 68 (by decide)).trans h_68
            have h_73 := (fr8 73 (by decide)).trans h_73
            have nA := nA.fr fr8 (by decide) (by decide)
            have nB := nB.fr fr8 (by decide) (by decide)
            have nL := nL.fr fr8 (by decide) (by decide)
            have nR := nR.fr fr8 (by decide) (by decide)
            have nP := nP.fr fr8 (by decide) (by decide)
            have nS := nS.fr fr8 (by decide) (by decide)
            have nN := nN.fr fr8 (by decide) (by decide)
            have nD := nD.fr fr8 (by decide) (by decide)
            have nLo := nLo.fr fr8 (by decide) (by decide)
            have nUp := nUp.fr fr8 (by decide) (by decide)
            have hS := hS.fr fr8 (by decide) (by decide) (by decide)
            have hq := hq.fr fr8 (by decide)
            have fr := fr.tr fr8 (by decide)
            have j77 : ∀ nr : Bool, (nr = true ↔ (pt a1 = 2 ^ (wd a1 - 1) ∨ (pt a1 = 0 ∧ k9 < 0))) → (zV X (fun r9 h' n' => r9 = none ∧ n' = n ∧ MD h' wd (zup pt a3 (mpw wd pt a1 k9 a3)) Q qn tf tc L 0 ∧ zFr MOL h h') cX11_power 7 RX11 none d 0 0 77 [(0, .ref 47), (1, .int (iI (a1:Nat))), (2, .int (iI k9)), (3, .int (iI (a3:Nat)))] [.int (iI (bz nr))] G2 n 0 0) := by
              intro nr hnr
              refine v_istore (i := 4) (lv' := [(4, .int (iI (bz nr))), (0, .ref 47), (1, .int (iI (a1:Nat))), (2, .int (iI k9)), (3, .int (iI (a3:Nat)))]) dX11_power_77 (by decide) rfl ?_
              refine v_iload dX11_power_79 rfl ?_
              refine w_ifb_eq 90 dX11_power_81 (by decide) (fun x9 => ?_) (fun x9 => ?_)
              · have hn : ¬ (pt a1 = 2 ^ (wd a1 - 1) ∨ (pt a1 = 0 ∧ k9 < 0)) := fun z => by rw [hnr.mpr z] at x9; exact absurd x9 (by decide)
                have x1 : pt a1 ≠ 2 ^ (wd a1 - 1) := fun z => hn (Or.inl z)
                obtain ⟨es, hsz⟩ := lk_sg hl1 x1
                have hsr := sgI_r (pvI (pt a1) (wd a1))
                rw [← es] at hsr
                have hz0 : s1 = 0 → pt a1 = 0 := fun z => pv_0 (p := pt a1) (n := wd a1) (by have := sgI_c (pvI (pt a1) (wd a1)); omega) ⟨w1.1, w1.2.1⟩ w1.2.2 x1 ⟨_, _, _, hl1⟩
                obtain ⟨sn, esn'⟩ : ∃ sn, (if k9 = 0 then 1 else if k9 % 2 = 0 then sgI (pvI (pt a1) (wd a1)) * sgI (pvI (pt a1) (wd a1)) else sgI (pvI (pt a1) (wd a1))) = sn := ⟨_, rfl⟩
                have esn := esn'.symm
                have hsn : -1 ≤ sn ∧ sn ≤ 1 := by
                  rw [esn, ← es]
                  have y1 : s1 = -1 ∨ s1 = 0 ∨ s1 = 1 := by omega
                  rcases y1 with y1 | y1 | y1 <;> rw [y1] <;> (split; decide; split <;> decide)
                have hMz : sn ≠ 0 → ∀ i, (s1 = 0 → i = 0) → M1 ^ i ≠ 0 := fun z i hi => by
                  by_cases y1 : s1 = 0
                  · rw [hi y1, Nat.pow_zero]; decide
                  · have := Nat.pow_pos (n := i) (hsz y1).2.2.2; omega
                have hMz2 : ∀ i, (s1 = 0 → i = 0) → M1 ^ i ≠ 0 := fun i hi => by
                  by_cases y1 : s1 = 0
                  · rw [hi y1, Nat.pow_zero]; decide
                  · have := Nat.pow_pos (n := i) (hsz y1).2.2.2; omega
                have j121 : (zV X (fun r9 h' n' => r9 = none ∧ n' = n ∧ MD h' wd (zup pt a3 (mpw wd pt a1 k9 a3)) Q qn tf tc L 0 ∧ zFr MOL h h') cX11_power 7 RX11 none d 0 0 121 [(0, .ref 47), (1, .int (iI (a1:Nat))), (2, .int (iI k9)), (3, .int (iI (a3:Nat)))] [.int (iI sn), .ref 47] G2 n 0 0) := by
                  refine v_cV (av := [.int (iI sn)]) (st := []) zyX11_begin lX11_119 h_47 rfl (p_begin (d := 6) h_47 nA nB (by decide)) dX11_power_121 rfl rfl (Nat.le_of_ble_eq_true rfl) (by omega) (Nat.le_of_ble_eq_true rfl) (Nat.le_of_ble_eq_true rfl) (Or.inl (fun _ _ _ q => ZN q)) (fun r9 G2 n9 q9 => ?_)
                  obtain ⟨rfl, q9n, h_47, hA, hB, fr7⟩ := q9
                  have q9n := q9n.symm
                  subst q9n
                  have h_48 := (fr7 48 (by decide)).trans h_48
                  have h_49 := (fr7 49 (by decide)).trans h_49
                  have h_58 := (fr7 58 (by decide)).trans h_58
                  have h_66 := (fr7 66 (by decide)).trans h_66
                  have h_67 := (fr7 67 (by decide)).trans h_67
                  have h_68 := (fr7 68 (by decide)).trans h_68
                  have h_73 := (fr7 73 (by decide)).trans h_73
                  have nL := nL.fr fr7 (by decide) (by decide)
                  have nR := nR.fr fr7 (by decide) (by decide)
                  have nP := nP.fr fr7 (by decide) (by decide)
                  have nS := nS.fr fr7 (by decide) (by decide)
                  have nN := nN.fr fr7 (by decide) (by decide)
                  have nD := nD.fr fr7 (by decide) (by decide)
                  have nLo := nLo.fr fr7 (by decide) (by decide)
                  have nUp := nUp.fr fr7 (by decide) (by decide)
                  have hS := hS.fr fr7 (by decide) (by decide) (by decide)
                  have hq := hq.fr fr7 (by decide)
                  have fr := fr.tr fr7 (by decide)
                  refine v_iload_n dX11_power_124 rfl ?_
                  refine w_if_ge 135 dX11_power_125 (by decide) (by omega) (fun hk0 => ?_) (fun hk0 => ?_)
                  · skip
                    have fin : ∀ (H : zH) (i : Nat) (y : Int), (s1 ≠ 0 → i = k9.natAbs) → i ≤ 16 → (s1 = 0 → i = 0) → H 47 = oModel s1 (M1:Nat) E1 sn 0 1 0 (tc:Nat) (L.length:Nat) at9 sz dg pw tn fm → zFr MOL h H → zFr [47, 50, 51, 52, 53] G2 H → ND H 50 51 (M1 ^ i) ∧ ND H 52 53 1 → (zV X (fun r9 h' n' => r9 = none ∧ n' = n ∧ MD h' wd (zup pt a3 (mpw wd pt a1 k9 a3)) Q qn tf tc L 0 ∧ zFr MOL h h') cX11_power 7 RX11 none d 0 0 176 [(0, .ref 47), (1, .int (iI (a1:Nat))), (2, .int (iI k9)), (3, .int (iI (a3:Nat))), (5, .ref 50), (6, .int (iI y))] [] H n 0 0) := by
                      intro H i y hi1 hi2 hi0 h_47 fr fx hab
                      obtain ⟨hA, hB⟩ := hab
                      have nA := hA.ns
                      have nB := hB.ns
                      have h_48 := (fx 48 (by decide)).trans h_48
                      have h_49 := (fx 49 (by decide)).trans h_49
                      have h_58 := (fx 58 (by decide)).trans h_58
                      have h_66 := (fx 66 (by decide)).trans h_66
                      have h_67 := (fx 67 (by decide)).trans h_67
                      have h_68 := (fx 68 (by decide)).trans h_68
                      have h_73 := (fx 73 (by decide)).trans h_73
                      have nL := nL.fr fx (by decide) (by decide)
                      have nR := nR.fr fx (by decide) (by decide)
                      have nP := nP.fr fx (by decide) (by decide)
                      have nS := nS.fr fx (by decide) (by decide)
                      have nN := nN.fr fx (by decide) (by decide)
                      have nD := nD.fr fx (by decide) (by decide)
                      have nLo := nLo.fr fx (by decide) (by decide)
                      have nUp := nUp.fr fx (by decide) (by decide)
                      have hS := hS.fr fx (by decide) (by decide) (by decide)
                      have hq := hq.fr fx (by decide)
                      have hnm := nb_mp (b := 1) (m := M1) (i := i) hm1
                      rw [Nat.one_mul] at hnm
                      have hn1 : nb 1 = 1 := by decide
                      refine v_aload_n dX11_power_176 rfl ?_
                      refine v_aload_n dX11_power_177 rfl ?_
                      refine v_get fX11_13 dX11_power_178 h_47 (by decide) rfl ?_
                      refine v_iload_n dX11_power_181 rfl ?_
                      refine w_imul dX11_power_182 ?_
                      obtain ⟨ek, eek⟩ : ∃ ek, E1 * k9 = ek := ⟨_, rfl⟩
                      have hek := mul_r (a := E1) (b := k9) (A := 300) (B := 16) (by omega) (by omega)
                      rw [eek] at hek
                      refine w_ei ek eek ?_
                      refine v_put (fs' := [.int (iI s1), .long (jL (M1:Nat)), .int (iI E1), .ref 48, .ref 49, .int (iI sn), .ref 50, .ref 52, .int (iI ek), .int (iI 1), .ref 54, .ref 56, .ref 58, .ref 59, .ref 62, .ref 64, .int (iI 0), .ref 66, .int (iI (tc:Nat)), .ref 67, .int (iI (L.length:Nat)), .int (iI at9), .int (iI sz), .int (iI dg), .int (iI pw), .ref 68, .ref 69, .ref 71, .int (iI tn), .ref 73, .int (iI fm), .ref 74, .ref 76]) fX11_48 dX11_power_183 h_47 (by decide) (Nat.le_of_ble_eq_true rfl) rfl rfl rfl (fun H1 eH1 => ?_)
                      have h_47 : H1 47 = oModel s1 (M1:Nat) E1 sn ek 1 0 (tc:Nat) (L.length:Nat) at9 sz dg pw tn fm := zf_same eH1
                      have h_48 := (zf_ne eH1 (by decide)).trans h_48
                      have h_49 := (zf_ne eH1 (by decide)).trans h_49
                      have fr := fr.put eH1 (by simp)
                      refine v_aload_n dX11_power_186 rfl ?_
                      refine v_iload_n dX11_power_187 rfl ?_
                      have fz : zFr [47] H H1 := zFr.put zFr.rf eH1 (by simp)
                      have h_58 := (fz 58 (by decide)).trans h_58
                      have h_66 := (fz 66 (by decide)).trans h_66
                      have h_67 := (fz 67 (by decide)).trans h_67
                      have h_68 := (fz 68 (by decide)).trans h_68
                      have h_73 := (fz 73 (by decide)).trans h_73
                      have nA := nA.fr fz (by decide) (by decide)
                      have nB := nB.fr fz (by decide) (by decide)
                      have nL := nL.fr fz (by decide) (by decide)
                      have nR := nR.fr fz (by decide) (by decide)
                      have nP := nP.fr fz (by decide) (by decide)
                      have nS := nS.fr fz (by decide) (by decide)
                      have nN := nN.fr fz (by decide) (by decide)
                      have nD := nD.fr fz (by decide) (by decide)
                      have nLo := nLo.fr fz (by decide) (by decide)
                      have nUp := nUp.fr fz (by decide) (by decide)
                      have hS := hS.fr fz (by decide) (by decide) (by decide)
                      have hq := hq.fr fz (by decide)
                      have hA := hA.fr fz (by decide) (by decide)
                      have hB := hB.fr fz (by decide) (by decide)
                      have hMi : s1 ≠ 0 → M1 ^ i ≠ 0 := fun z => by have := Nat.pow_pos (n := i) (hsz z).2.2.2; omega
                      refine v_cV (av := [.int (iI (a3:Nat))]) (st := []) zyX11_become lX11_185 h_47 rfl (p_become (d := 6) (rt := 1) h_47 h_48 h_49 hA hB nL nR hsn (fun z => hMz z i hi0) (by omega) (by decide) (by decide) (by decide) (by omega) h3 ⟨w3.1, w3.2.1⟩ (by decide)) dX11_power_188 rfl rfl (Nat.le_of_ble_eq_true rfl) (by omega) (Nat.le_of_ble_eq_true rfl) (Nat.le_of_ble_eq_true rfl) (Or.inl (fun _ _ _ q => ZN q)) (fun r9 G6 n9 q9 => ?_)
                      obtain ⟨rfl, q9n, ⟨v7, v8, v9, h_47⟩, h_49, nL, nR, fr4⟩ := q9
                      have q9n := q9n.symm
                      subst q9n
                      have h_48 := (fr4 48 (by decide)).trans h_48
                      have h_58 := (fr4 58 (by decide)).trans h_58
                      have h_66 := (fr4 66 (by decide)).trans h_66
                      have h_67 := (fr4 67 (by decide)).trans h_67
                      have h_68 := (fr4 68 (by decide)).trans h_68
                      have h_73 := (fr4 73 (by decide)).trans h_73
                      have nA := nA.fr fr4 (by decide) (by decide)
                      have nB := nB.fr fr4 (by decide) (by decide)
                      have nP := nP.fr fr4 (by decide) (by decide)
                      have nS := nS.fr fr4 (by decide) (by decide)
                      have nN := nN.fr fr4 (by decide) (by decide)
                      have nD := nD.fr fr4 (by decide) (by decide)
                      have nLo := nLo.fr fr4 (by decide) (by decide)
                      have nUp := nUp.fr fr4 (by decide) (by decide)
                      have hS := hS.fr fr4 (by decide) (by decide) (by decide)
                      have hq := hq.fr fr4 (by decide)
                      have fr := fr.tr fr4 (by decide)
                      have e9 : rdR sn (CP (M1 ^ i) 1 ek 1) (wd a3) = mpw wd pt a1 k9 a3 := by
                        unfold mpw
                        rw [if_neg hn, if_pos hk0, ← esn]
                        refine rd_c (fun z => ?_)
                        by_cases y0 : s1 = 0
                        · have hk9 : k9 = 0 := by
                            rcases Int.lt_trichotomy k9 0 with y1 | y1 | y1
                            · exact absurd (hz0 y0) (fun y2 => hn (Or.inr ⟨y2, y1⟩))
                            · exact y1
                            · exfalso; apply z; rw [esn, if_neg (by omega), ← es, y0]; split <;> rfl
                          rw [← eek, hi0 y0, hk9]; rw [show Int.natAbs 0 = 0 from rfl, Nat.pow_zero, Nat.pow_zero, Int.mul_zero]; rfl
                        · have k1 := hsz y0
                          rw [← eek, hi1 y0]
                          have e7 : E1 * k9 = E1 * (k9.natAbs : Int) := by rw [show ((k9.natAbs : Nat) : Int) = k9 from by omega]
                          rw [e7]
                          exact pw_up k1.1 k1.2.1
                      rw [e9] at h_49
                      exact v_vret dX11_power_191 trivial (Nat.le_of_ble_eq_true rfl) (Nat.le_of_ble_eq_true rfl) ⟨rfl, rfl, ⟨_, _, _, _, _, _, _, _, _, _, _, _, h_47, h_48, h_49, ⟨nA, nB, nL, nR, nP, nS, nN, nD, nLo, nUp⟩, h_58, ⟨_, _, hS⟩, hq, h_66, ⟨_, h_67, hbb, htx⟩, ⟨_, h_68⟩, ⟨_, h_73⟩⟩, fr⟩
                    have loop : ∀ (m i : Nat) (y : Int) (H : zH), i + m = k9.natAbs → y = i → (s1 = 0 → i = 0) → H 47 = oModel s1 (M1:Nat) E1 sn 0 1 0 (tc:Nat) (L.length:Nat) at9 sz dg pw tn fm → zFr MOL h H → zFr [47, 50, 51, 52, 53] G2 H → ND H 50 51 (M1 ^ i) ∧ ND H 52 53 1 → (zV X (fun r9 h' n' => r9 = none ∧ n' = n ∧ MD h' wd (zup pt a3 (mpw wd pt a1 k9 a3)) Q qn tf tc L 0 ∧ zFr MOL h h') cX11_power 7 RX11 none d 0 0 144 [(0, .ref 47), (1, .int (iI (a1:Nat))), (2, .int (iI k9)), (3, .int (iI (a3:Nat))), (5, .ref 50), (6, .int (iI y))] [] H n 0 0) := by
                      intro m
                      induction m with
                      | zero =>
                        intro i y H hi ey hi0 h_47 fr fx hab
                        refine v_iload dX11_power_144 rfl ?_
                        refine v_iload_n dX11_power_146 rfl ?_
                        refine v_cS (av := [.int (iI k9)]) (st := [.int (iI y)]) zyJ9_abs_0f7a4 lX11_240 (p_abs (d := 6) (by omega)) dX11_power_147 rfl rfl (Nat.le_of_ble_eq_true rfl) (by omega) (Nat.le_of_ble_eq_true rfl) (Nat.le_of_ble_eq_true rfl) (Or.inl (fun _ _ _ q => ZN q)) (fun r9 K1 n9 q9 => ?_)
                        obtain ⟨rfl, q9n, q9h⟩ := q9
                        have q9n := q9n.symm
                        subst q9n
                        have q9h := q9h.symm
                        subst q9h
                        refine w_icmp_ge 176 dX11_power_150 (by decide) (by omega) (by omega) (fun z1 => ?_) (fun z1 => ?_)
                        · exact fin _ i y (fun _ => by omega) (by omega) hi0 h_47 fr fx hab
                        · exact absurd z1 (by omega)
                      | succ m ih =>
                        intro i y H hi ey hi0 h_47 fr fx hab
                        refine v_iload dX11_power_144 rfl ?_
                        refine v_iload_n dX11_power_146 rfl ?_
                        refine v_cS (av := [.int (iI k9)]) (st := [.int (iI y)]) zyJ9_abs_0f7a4 lX11_240 (p_abs (d := 6) (by omega)) dX11_power_147 rfl rfl (Nat.le_of_ble_eq_true rfl) (by omega) (Nat.le_of_ble_eq_true rfl) (Nat.le_of_ble_eq_true rfl) (Or.inl (fun _ _ _ q => ZN q)) (fun r9 K1 n9 q9 => ?_)
                        obtain ⟨rfl, q9n, q9h⟩ := q9
                        have q9n := q9n.symm
                        subst q9n
                        have q9h := q9h.symm
                        subst q9h
                        refine w_icmp_ge 176 dX11_power_150 (by decide) (by omega) (by omega) (fun z1 => ?_) (fun z1 => ?_)
                        · exact absurd z1 (by omega)
                        · skip
                          refine v_aload_n dX11_power_153 rfl ?_
                          refine v_get fX11_17 dX11_power_154 h_47 (by decide) rfl ?_
                          refine w_if_eq 176 dX11_power_157 (by decide) (by omega) (fun z2 => ?_) (fun z2 => ?_)
                          · exact fin _ i y (fun z => absurd z2 z) (by omega) hi0 h_47 fr fx hab
                          · obtain ⟨hA, hB⟩ := hab
                            have hnm := nb_mp (b := 1) (m := M1) (i := i) hm1
                            rw [Nat.one_mul] at hnm
                            have hn1 : nb 1 = 1 := by decide
                            refine v_aload dX11_power_160 rfl ?_
                            refine v_aload_n dX11_power_162 rfl ?_
                            refine v_get fX11_7 dX11_power_163 h_47 (by decide) rfl ?_
                            refine v_iconst (iI 0) dX11_power_166 rfl ?_
                            obtain ⟨_, _, h_50, -⟩ := id hA
                            refine v_cV (av := [.long (jL (M1:Nat)), .int (iI 0)]) (st := []) zyX9_times lX11_64 h_50 rfl (p_ntimes (d := 6) (x := M1) (y := 0) hA hm1 (by decide) (big_of hnm (by omega))) dX11_power_167 rfl rfl (Nat.le_of_ble_eq_true rfl) (by omega) (Nat.le_of_ble_eq_true rfl) (Nat.le_of_ble_eq_true rfl) (Or.inl (fun _ _ _ q => ZN q)) (fun r9 G7 n9 q9 => ?_)
                            obtain ⟨rfl, q9n, hT1, hT, fr7⟩ := q9
                            have q9n := q9n.symm
                            subst q9n
                            have hT := hT (by have := (hsz z2).2.2.2; omega)
                            rw [Nat.add_zero, ← Nat.pow_succ] at hT
                            refine w_iinc (lv' := [(6, .int (iI (y + 1))), (0, .ref 47), (1, .int (iI (a1:Nat))), (2, .int (iI k9)), (3, .int (iI (a3:Nat))), (5, .ref 50)]) dX11_power_170 rfl (by decide) rfl ?_
                            refine v_goto 144 dX11_power_173 (by decide) ?_
                            refine w_sub (lv2 := [(0, .ref 47), (1, .int (iI (a1:Nat))), (2, .int (iI k9)), (3, .int (iI (a3:Nat))), (5, .ref 50), (6, .int (iI (y + 1)))]) [1, 2, 3, 4, 5, 0] rfl ?_
                            exact ih (i + 1) (y + 1) _ (by omega) (by omega) (fun z => absurd z z2) ((fr7 47 (by decide)).trans h_47) (fr.tr fr7 (by decide)) (fx.tr fr7 (by decide)) ⟨hT, hB.fr fr7 (by decide) (by decide)⟩
                    refine v_aload_n dX11_power_135 rfl ?_
                    refine v_get fX11_35 dX11_power_136 h_47 (by decide) rfl ?_
                    refine v_astore (i := 5) (lv' := [(5, .ref 50), (0, .ref 47), (1, .int (iI (a1:Nat))), (2, .int (iI k9)), (3, .int (iI (a3:Nat)))]) dX11_power_139 (by decide) rfl ?_
                    refine v_iconst (iI 0) dX11_power_141 rfl ?_
                    refine v_istore (i := 6) (lv' := [(6, .int (iI 0)), (5, .ref 50), (0, .ref 47), (1, .int (iI (a1:Nat))), (2, .int (iI k9)), (3, .int (iI (a3:Nat)))]) dX11_power_142 (by decide) rfl ?_
                    refine w_sub (lv2 := [(0, .ref 47), (1, .int (iI (a1:Nat))), (2, .int (iI k9)), (3, .int (iI (a3:Nat))), (5, .ref 50), (6, .int (iI 0))]) [2, 3, 4, 5, 1, 0] rfl ?_
                    exact loop k9.natAbs 0 0 _ (by omega) rfl (fun _ => rfl) h_47 fr zFr.rf ⟨by rw [Nat.pow_zero]; exact hA, by rw [show (1:Nat) = 1 from rfl]; exact hB⟩
                  · skip
                    have fin : ∀ (H : zH) (i : Nat) (y : Int), (s1 ≠ 0 → i = k9.natAbs) → i ≤ 16 → (s1 = 0 → i = 0) → H 47 = oModel s1 (M1:Nat) E1 sn 0 1 0 (tc:Nat) (L.length:Nat) at9 sz dg pw tn fm → zFr MOL h H → zFr [47, 50, 51, 52, 53] G2 H → ND H 50 51 1 ∧ ND H 52 53 (M1 ^ i) → (zV X (fun r9 h' n' => r9 = none ∧ n' = n ∧ MD h' wd (zup pt a3 (mpw wd pt a1 k9 a3)) Q qn tf tc L 0 ∧ zFr MOL h h') cX11_power 7 RX11 none d 0 0 176 [(0, .ref 47), (1, .int (iI (a1:Nat))), (2, .int (iI k9)), (3, .int (iI (a3:Nat))), (5, .ref 52), (6, .int (iI y))] [] H n 0 0) := by
                      intro H i y hi1 hi2 hi0 h_47 fr fx hab
                      obtain ⟨hA, hB⟩ := hab
                      have nA := hA.ns
                      have nB := hB.ns
                      have h_48 := (fx 48 (by decide)).trans h_48
                      have h_49 := (fx 49 (by decide)).trans h_49
                      have h_58 := (fx 58 (by decide)).trans h_58
                      have h_66 := (fx 66 (by decide)).trans h_66
                      have h_67 := (fx 67 (by decide)).trans h_67
                      have h_68 := (fx 68 (by decide)).trans h_68
                      have h_73 := (fx 73 (by decide)).trans h_73
                      have nL := nL.fr fx (by decide) (by decide)
                      have nR := nR.fr fx (by decide) (by decide)
                      have nP := nP.fr fx (by decide) (by decide)
                      have nS := nS.fr fx (by decide) (by decide)
                      have nN := nN.fr fx (by decide) (by decide)
                      have nD := nD.fr fx (by decide) (by decide)
                      have nLo := nLo.fr fx (by decide) (by decide)
                      have nUp := nUp.fr fx (by decide) (by decide)
                      have hS := hS.fr fx (by decide) (by decide) (by decide)
                      have hq := hq.fr fx (by decide)
                      have hnm := nb_mp (b := 1) (m := M1) (i := i) hm1
                      rw [Nat.one_mul] at hnm
                      have hn1 : nb 1 = 1 := by decide
                      refine v_aload_n dX11_power_176 rfl ?_
                      refine v_aload_n dX11_power_177 rfl ?_
                      refine v_get fX11_13 dX11_power_178 h_47 (by decide) rfl ?_
                      refine v_iload_n dX11_power_181 rfl ?_
                      refine w_imul dX11_power_182 ?_
                      obtain ⟨ek, eek⟩ : ∃ ek, E1 * k9 = ek := ⟨_, rfl⟩
                      have hek := mul_r (a := E1) (b := k9) (A := 300) (B := 16) (by omega) (by omega)
                      rw [eek] at hek
                      refine w_ei ek eek ?_
                      refine v_put (fs' := [.int (iI s1), .long (jL (M1:Nat)), .int (iI E1), .ref 48, .ref 49, .int (iI sn), .ref 50, .ref 52, .int (iI ek), .int (iI 1), .ref 54, .ref 56, .ref 58, .ref 59, .ref 62, .ref 64, .int (iI 0), .ref 66, .int (iI (tc:Nat)), .ref 67, .int (iI (L.length:Nat)), .int (iI at9), .int (iI sz), .int (iI dg), .int (iI pw), .ref 68, .ref 69, .ref 71, .int (iI tn), .ref 73, .int (iI fm), .ref 74, .ref 76]) fX11_48 dX11_power_183 h_47 (by decide) (Nat.le_of_ble_eq_true rfl) rfl rfl rfl (fun H1 eH1 => ?_)
                      have h_47 : H1 47 = oModel s1 (M1:Nat) E1 sn ek 1 0 (tc:Nat) (L.length:Nat) at9 sz dg pw tn fm := zf_same eH1
                      have h_48 := (zf_ne eH1 (by decide)).trans h_48
                      have h_49 := (zf_ne eH1 (by decide)).trans h_49
                      have fr := fr.put eH1 (by simp)
                      refine v_aload_n dX11_power_186 rfl ?_
                      refine v_iload_n dX11_power_187 rfl ?_
                      have fz : zFr [47] H H1 := zFr.put zFr.rf eH1 (by simp)
                      have h_58 := (fz 58 (by decide)).trans h_58
                      have h_66 := (fz 66 (by decide)).trans h_66
                      have h_67 := (fz 67 (by decide)).trans h_67
                      have h_68 := (fz 68 (by decide)).trans h_68
                      have h_73 := (fz 73 (by decide)).trans h_73
                      have nA := nA.fr fz (by decide) (by decide)
                      have nB := nB.fr fz (by decide) (by decide)
                      have nL := nL.fr fz (by decide) (by decide)
                      have nR := nR.fr fz (by decide) (by decide)
                      have nP := nP.fr fz (by decide) (by decide)
                      have nS := nS.fr fz (by decide) (by decide)
                      have nN := nN.fr fz (by decide) (by decide)
                      have nD := nD.fr fz (by decide) (by decide)
                      have nLo := nLo.fr fz (by decide) (by decide)
                      have nUp := nUp.fr fz (by decide) (by decide)
                      have hS := hS.fr fz (by decide) (by decide) (by decide)
                      have hq := hq.fr fz (by decide)
                      have hA := hA.fr fz (by decide) (by decide)
                      have hB := hB.fr fz (by decide) (by decide)
                      have hMi : s1 ≠ 0 → M1 ^ i ≠ 0 := fun z => by have := Nat.pow_pos (n := i) (hsz z).2.2.2; omega
                      refine v_cV (av := [.int (iI (a3:Nat))]) (st := []) zyX11_become lX11_185 h_47 rfl (p_become (d := 6) (rt := 1) h_47 h_48 h_49 hA hB nL nR hsn (fun z => by decide) (by decide) (hMz2 i hi0) (by omega) (by decide) (by omega) h3 ⟨w3.1, w3.2.1⟩ (by decide)) dX11_power_188 rfl rfl (Nat.le_of_ble_eq_true rfl) (by omega) (Nat.le_of_ble_eq_true rfl) (Nat.le_of_ble_eq_true rfl) (Or.inl (fun _ _ _ q => ZN q)) (fun r9 G6 n9 q9 => ?_)
                      obtain ⟨rfl, q9n, ⟨v7, v8, v9, h_47⟩, h_49, nL, nR, fr4⟩ := q9
                      have q9n := q9n.symm
                      subst q9n
                      have h_48 := (fr4 48 (by decide)).trans h_48
                      have h_58 := (fr4 58 (by decide)).trans h_58
                      have h_66 := (fr4 66 (by decide)).trans h_66
                      have h_67 := (fr4 67 (by decide)).trans h_67
                      have h_68 := (fr4 68 (by decide)).trans h_68
                      have h_73 := (fr4 73 (by decide)).trans h_73
                      have nA := nA.fr fr4 (by decide) (by decide)
                      have nB := nB.fr fr4 (by decide) (by decide)
                      have nP := nP.fr fr4 (by decide) (by decide)
                      have nS := nS.fr fr4 (by decide) (by decide)
                      have nN := nN.fr fr4 (by decide) (by decide)
                      have nD := nD.fr fr4 (by decide) (by decide)
                      have nLo := nLo.fr fr4 (by decide) (by decide)
                      have nUp := nUp.fr fr4 (by decide) (by decide)
                      have hS := hS.fr fr4 (by decide) (by decide) (by decide)
                      have hq := hq.fr fr4 (by decide)
                      have fr := fr.tr fr4 (by decide)
                      have e9 : rdR sn (CP 1 (M1 ^ i) ek 1) (wd a3) = mpw wd pt a1 k9 a3 := by
                        unfold mpw
                        rw [if_neg hn, if_neg hk0, ← esn]
                        refine rd_c (fun z => ?_)
                        by_cases y0 : s1 = 0
                        · have hk9 : k9 = 0 := by
                            rcases Int.lt_trichotomy k9 0 with y1 | y1 | y1
                            · exact absurd (hz0 y0) (fun y2 => hn (Or.inr ⟨y2, y1⟩))
                            · exact y1
                            · exfalso; apply z; rw [esn, if_neg (by omega), ← es, y0]; split <;> rfl
                          rw [← eek, hi0 y0, hk9]; exact absurd (by omega) hk0
                        · have k1 := hsz y0
                          rw [← eek, hi1 y0]
                          have e7 : E1 * k9 = -(E1 * (k9.natAbs : Int)) := by rw [show ((k9.natAbs : Nat) : Int) = -k9 from by omega, Int.mul_neg, Int.neg_neg]
                          rw [e7]
                          exact pw_dn k1.1 k1.2.1
                      rw [e9] at h_49
                      exact v_vret dX11_power_191 trivial (Nat.le_of_ble_eq_true rfl) (Nat.le_of_ble_eq_true rfl) ⟨rfl, rfl, ⟨_, _, _, _, _, _, _, _, _, _, _, _, h_47, h_48, h_49, ⟨nA, nB, nL, nR, nP, nS, nN, nD, nLo, nUp⟩, h_58, ⟨_, _, hS⟩, hq, h_66, ⟨_, h_67, hbb, htx⟩, ⟨_, h_68⟩, ⟨_, h_73⟩⟩, fr⟩
                    have loop : ∀ (m i : Nat) (y : Int) (H : zH), i + m = k9.natAbs → y = i → (s1 = 0 → i = 0) → H 47 = oModel s1 (M1:Nat) E1 sn 0 1 0 (tc:Nat) (L.length:Nat) at9 sz dg pw tn fm → zFr MOL h H → zFr [47, 50, 51, 52, 53] G2 H → ND H 50 51 1 ∧ ND H 52 53 (M1 ^ i) → (zV X (fun r9 h' n' => r9 = none ∧ n' = n ∧ MD h' wd (zup pt a3 (mpw wd pt a1 k9 a3)) Q qn tf tc L 0 ∧ zFr MOL h h') cX11_power 7 RX11 none d 0 0 144 [(0, .ref 47), (1, .int (iI (a1:Nat))), (2, .int (iI k9)), (3, .int (iI (a3:Nat))), (5, .ref 52), (6, .int (iI y))] [] H n 0 0) := by
                      intro m
                      induction m with
                      | zero =>
                        intro i y H hi ey hi0 h_47 fr fx hab
                        refine v_iload dX11_power_144 rfl ?_
                        refine v_iload_n dX11_power_146 rfl ?_
                        refine v_cS (av := [.int (iI k9)]) (st := [.int (iI y)]) zyJ9_abs_0f7a4 lX11_240 (p_abs (d := 6) (by omega)) dX11_power_147 rfl rfl (Nat.le_of_ble_eq_true rfl) (by omega) (Nat.le_of_ble_eq_true rfl) (Nat.le_of_ble_eq_true rfl) (Or.inl (fun _ _ _ q => ZN q)) (fun r9 K1 n9 q9 => ?_)
                        obtain ⟨rfl, q9n, q9h⟩ := q9
                        have q9n := q9n.symm
                        subst q9n
                        have q9h := q9h.symm
                        subst q9h
                        refine w_icmp_ge 176 dX11_power_150 (by decide) (by omega) (by omega) (fun z1 => ?_) (fun z1 => ?_)
                        · exact fin _ i y (fun _ => by omega) (by omega) hi0 h_47 fr fx hab
                        · exact absurd z1 (by omega)
                      | succ m ih =>
                        intro i y H hi ey hi0 h_47 fr fx hab
                        refine v_iload dX11_power_144 rfl ?_
                        refine v_iload_n dX11_power_146 rfl ?_
                        refine v_cS (av := [.int (iI k9)]) (st := [.int (iI y)]) zyJ9_abs_0f7a4 lX11_240 (p_abs (d := 6) (by omega)) dX11_power_147 rfl rfl (Nat.le_of_ble_eq_true rfl) (by omega) (Nat.le_of_ble_eq_true rfl) (Nat.le_of_ble_eq_true rfl) (Or.inl (fun _ _ _ q => ZN q)) (fun r9 K1 n9 q9 => ?_)
                        obtain ⟨rfl, q9n, q9h⟩ := q9
                        have q9n := q9n.symm
                        subst q9n
                        have q9h := q9h.symm
                        subst q9h
                        refine w_icmp_ge 176 dX11_power_150 (by decide) (by omega) (by omega) (fun z1 => ?_) (fun z1 => ?_)
                        · exact absurd z1 (by omega)
                        · skip
                          refine v_aload_n dX11_power_153 rfl ?_
                          refine v_get fX11_17 dX11_power_154 h_47 (by decide) rfl ?_
                          refine w_if_eq 176 dX11_power_157 (by decide) (by omega) (fun z2 => ?_) (fun z2 => ?_)
                          · exact fin _ i y (fun z => absurd z2 z) (by omega) hi0 h_47 fr fx hab
                          · obtain ⟨hA, hB⟩ := hab
                            have hnm := nb_mp (b := 1) (m := M1) (i := i) hm1
                            rw [Nat.one_mul] at hnm
                            have hn1 : nb 1 = 1 := by decide
                            refine v_aload dX11_power_160 rfl ?_
                            refine v_aload_n dX11_power_162 rfl ?_
                            refine v_get fX11_7 dX11_power_163 h_47 (by decide) rfl ?_
                            refine v_iconst (iI 0) dX11_power_166 rfl ?_
                            obtain ⟨_, _, h_52, -⟩ := id hB
                            refine v_cV (av := [.long (jL (M1:Nat)), .int (iI 0)]) (st := []) zyX9_times lX11_64 h_52 rfl (p_ntimes (d := 6) (x := M1) (y := 0) hB hm1 (by decide) (big_of hnm (by omega))) dX11_power_167 rfl rfl (Nat.le_of_ble_eq_true rfl) (by omega) (Nat.le_of_ble_eq_true rfl) (Nat.le_of_ble_eq_true rfl) (Or.inl (fun _ _ _ q => ZN q)) (fun r9 G7 n9 q9 => ?_)
                            obtain ⟨rfl, q9n, hT1, hT, fr7⟩ := q9
                            have q9n := q9n.symm
                            subst q9n
                            have hT := hT (by have := (hsz z2).2.2.2; omega)
                            rw [Nat.add_zero, ← Nat.pow_succ] at hT
                            refine w_iinc (lv' := [(6, .int (iI (y + 1))), (0, .ref 47), (1, .int (iI (a1:Nat))), (2, .int (iI k9)), (3, .int (iI (a3:Nat))), (5, .ref 52)]) dX11_power_170 rfl (by decide) rfl ?_
                            refine v_goto 144 dX11_power_173 (by decide) ?_
                            refine w_sub (lv2 := [(0, .ref 47), (1, .int (iI (a1:Nat))), (2, .int (iI k9)), (3, .int (iI (a3:Nat))), (5, .ref 52), (6, .int (iI (y + 1)))]) [1, 2, 3, 4, 5, 0] rfl ?_
                            exact ih (i + 1) (y + 1) _ (by omega) (by omega) (fun z => absurd z z2) ((fr7 47 (by decide)).trans h_47) (fr.tr fr7 (by decide)) (fx.tr fr7 (by decide)) ⟨hA.fr fr7 (by decide) (by decide), hT⟩
                    refine v_aload_n dX11_power_128 rfl ?_
                    refine v_get fX11_45 dX11_power_129 h_47 (by decide) rfl ?_
                    refine v_goto 139 dX11_power_132 (by decide) ?_
                    refine v_astore (i := 5) (lv' := [(5, .ref 52), (0, .ref 47), (1, .int (iI (a1:Nat))), (2, .int (iI k9)), (3, .int (iI (a3:Nat)))]) dX11_power_139 (by decide) rfl ?_
                    refine v_iconst (iI 0) dX11_power_141 rfl ?_
                    refine v_istore (i := 6) (lv' := [(6, .int (iI 0)), (5, .ref 52), (0, .ref 47), (1, .int (iI (a1:Nat))), (2, .int (iI k9)), (3, .int (iI (a3:Nat)))]) dX11_power_142 (by decide) rfl ?_
                    refine w_sub (lv2 := [(0, .ref 47), (1, .int (iI (a1:Nat))), (2, .int (iI k9)), (3, .int (iI (a3:Nat))), (5, .ref 52), (6, .int (iI 0))]) [2, 3, 4, 5, 1, 0] rfl ?_
                    exact loop k9.natAbs 0 0 _ (by omega) rfl (fun _ => rfl) h_47 fr zFr.rf ⟨by rw [show (1:Nat) = 1 from rfl]; exact hA, by rw [Nat.pow_zero]; exact hB⟩
                refine v_aload_n dX11_power_90 rfl ?_
                refine v_iload_n dX11_power_91 rfl ?_
                refine w_if_ne 99 dX11_power_92 (by decide) (by omega) (fun c2 => ?_) (fun c2 => ?_)
                · have htm := tm2 k9
                  refine v_iload_n dX11_power_99 rfl ?_
                  refine v_iconst (iI 2) dX11_power_100 rfl ?_
                  refine w_irem dX11_power_101 (by omega) (by decide) ?_
                  refine w_if_ne 117 dX11_power_102 (by decide) (by omega) (fun c3 => ?_) (fun c3 => ?_)
                  · skip
                    refine v_aload_n dX11_power_117 rfl ?_
                    refine v_get fX11_17 dX11_power_118 h_47 (by decide) rfl ?_
                    refine w_ei sn (by rw [esn, if_neg c2, if_neg (by omega), ← es]) ?_
                    refine w_sub (lv2 := [(0, .ref 47), (1, .int (iI (a1:Nat))), (2, .int (iI k9)), (3, .int (iI (a3:Nat)))]) [1, 2, 3, 4] rfl ?_
                    exact j121
                  · skip
                    refine v_aload_n dX11_power_105 rfl ?_
                    refine v_get fX11_17 dX11_power_106 h_47 (by decide) rfl ?_
                    refine v_aload_n dX11_power_109 rfl ?_
                    refine v_get fX11_17 dX11_power_110 h_47 (by decide) rfl ?_
                    refine w_imul dX11_power_113 ?_
                    refine v_goto 121 dX11_power_114 (by decide) ?_
                    refine w_ei sn (by rw [esn, if_neg c2, if_pos (by omega), ← es]) ?_
                    refine w_sub (lv2 := [(0, .ref 47), (1, .int (iI (a1:Nat))), (2, .int (iI k9)), (3, .int (iI (a3:Nat)))]) [1, 2, 3, 4] rfl ?_
                    exact j121
                · skip
                  refine v_iconst (iI 1) dX11_power_95 rfl ?_
                  refine v_goto 121 dX11_power_96 (by decide) ?_
                  refine w_ei sn (by rw [esn, if_pos c2]) ?_
                  refine w_sub (lv2 := [(0, .ref 47), (1, .int (iI (a1:Nat))), (2, .int (iI k9)), (3, .int (iI (a3:Nat)))]) [1, 2, 3, 4] rfl ?_
                  exact j121
              · skip
                refine w_sub (lv2 := [(0, .ref 47), (1, .int (iI (a1:Nat))), (2, .int (iI k9)), (3, .int (iI (a3:Nat))), (4, .int (iI (bz nr)))]) [1, 2, 3, 4, 0] rfl ?_
                rw [x9]
                exact nar84 _ ⟨_, _, _, _, _, _, _, _, _, _, _, _, h_47, h_48, h_49, ⟨nA, nB, nL, nR, nP, nS, nN, nD, nLo, nUp⟩, h_58, ⟨_, _, hS⟩, hq, h_66, ⟨_, h_67, hbb, htx⟩, ⟨_, h_68⟩, ⟨_, h_73⟩⟩ fr (hnr.mp x9)
            refine v_aload_n dX11_power_49 rfl ?_
            refine v_iload_n dX11_power_50 rfl ?_
            refine v_cV (av := [.int (iI (a1:Nat))]) (st := []) zyX11_isNar lX11_176 h_47 rfl (p_misNar (d := 6) h_47 h_48 h_49 hPL h1) dX11_power_51 rfl rfl (Nat.le_of_ble_eq_true rfl) (by omega) (Nat.le_of_ble_eq_true rfl) (Nat.le_of_ble_eq_true rfl) (Or.inl (fun _ _ _ q => ZN q)) (fun r9 K3 n9 q9 => ?_)
            obtain ⟨rfl, q9n, q9h⟩ := q9
            have q9n := q9n.symm
            subst q9n
            have q9h := q9h.symm
            subst q9h
            refine w_ifb_ne 72 dX11_power_54 (by decide) (fun x1 => ?_) (fun x1 => ?_)
            · skip
              refine v_iconst (iI 1) dX11_power_72 rfl ?_
              refine v_goto 77 dX11_power_73 (by decide) ?_
              refine w_ei (bz true) rfl ?_
              exact j77 true ⟨fun _ => Or.inl (of_decide_eq_true x1), fun _ => rfl⟩
            · have x1 := of_decide_eq_false x1
              refine v_aload_n dX11_power_57 rfl ?_
              refine v_get fX11_20 dX11_power_58 h_47 (by decide) rfl ?_
              refine v_iload_n dX11_power_61 rfl ?_
              refine w_mald dX11_power_62 h_49 a1 (by omega) (by omega) (by decide) ?_
              refine v_lconst (jL 0) dX11_power_63 rfl ?_
              refine w_lcmp_ne 76 dX11_power_64 dX11_power_65 (by decide) (by omega) (by decide) (fun x2 => ?_) (fun x2 => ?_)
              · skip
                refine v_iconst (iI 0) dX11_power_76 rfl ?_
                refine w_ei (bz false) rfl ?_
                exact j77 false ⟨fun z => absurd z (by decide), fun z => z.elim (fun z => absurd z x1) (fun z => absurd (show ((pt a1 : Nat) : Int) = 0 by omega) x2)⟩
              · skip
                refine v_iload_n dX11_power_68 rfl ?_
                refine w_if_ge 76 dX11_power_69 (by decide) (by omega) (fun x3 => ?_) (fun x3 => ?_)
                · skip
                  refine v_iconst (iI 0) dX11_power_76 rfl ?_
                  refine w_ei (bz false) rfl ?_
                  exact j77 false ⟨fun z => absurd z (by decide), fun z => z.elim (fun z => absurd z x1) (fun z => absurd z.2 (by omega))⟩
                · skip
                  refine v_iconst (iI 1) dX11_power_72 rfl ?_
                  refine v_goto 77 dX11_power_73 (by decide) ?_
                  refine w_ei (bz true) rfl ?_
                  exact j77 true ⟨fun _ => Or.inr ⟨by omega, by omega⟩, fun _ => rfl⟩
          · exact absurd c1 (by decide)
