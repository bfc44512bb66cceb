/-! The reference: the acts on three places -/
theorem cpr_xy {a b : Nat} {e : Int} {rt m : Nat} {g : Int} {X Y : Nat} (h : (X : Int) - Y = e - g * rt) : cpr a b e rt m g = cmpz (a * 2 ^ X) (b * m ^ rt * 2 ^ Y) := by
  unfold cpr
  exact (cmpz_sh h).symm
/-- the same value, told in units of 2^-120 -/
theorem CP_a {M b : Nat} {E c : Int} {rt U : Nat} (hU : U = M * 2 ^ (E + 120).toNat) (hE : -120 ≤ E) : CP M b (E + c) rt = CP U b (-120 + c) rt := by
  funext u w
  unfold CP
  obtain ⟨s, es⟩ : ∃ s, -120 + c - pE u w * rt = s := ⟨_, rfl⟩
  rw [cpr_xy (e := E + c) (X := s.toNat + (E + 120).toNat) (Y := (-s).toNat) (by omega), cpr_xy (e := -120 + c) (X := s.toNat) (Y := (-s).toNat) (by omega), hU, Nat.pow_add, Nat.mul_comm (2 ^ s.toNat), ← Nat.mul_assoc]
theorem CP_b {M b : Nat} {E c : Int} {rt U : Nat} (hU : U = M * 2 ^ (E + 120).toNat) (hE : -120 ≤ E) : CP b M (c - E) rt = CP b U (c + 120) rt := by
  funext u w
  unfold CP
  obtain ⟨s, es⟩ : ∃ s, c - E - pE u w * rt = s := ⟨_, rfl⟩
  rw [cpr_xy (e := c - E) (X := s.toNat + (E + 120).toNat) (Y := (E + 120).toNat + (-s).toNat) (by omega), cpr_xy (e := c + 120) (X := s.toNat + (E + 120).toNat) (Y := (-s).toNat) (by omega), hU, Nat.pow_add 2 (E + 120).toNat]
  congr 1
  generalize 2 ^ (E + 120).toNat = A
  generalize 2 ^ (-s).toNat = B
  generalize pM u w ^ rt = D
  rw [Nat.mul_right_comm M A D, Nat.mul_assoc, Nat.mul_assoc, Nat.mul_assoc]
/-- sign and size of a look -/
theorem lk_sg {p n M : Nat} {s E : Int} (h : lk p n s M E) (hp : p ≠ 2 ^ (n - 1)) : s = sgI (pvI p n) ∧ (s ≠ 0 → (pvI p n).natAbs = M * 2 ^ (E + 120).toNat ∧ -120 ≤ E ∧ E ≤ 120 ∧ 0 < M) := by
  rcases lk_pv h hp with ⟨-, h2, -, -, h5⟩ | ⟨-, h2, h3, h4, h5, h6, -⟩
  · exact ⟨by rw [h5, h2]; rfl, fun z => absurd h2 z⟩
  · have hpos : 0 < M * 2 ^ (E + 120).toNat := Nat.mul_pos h3 (p_pos _)
    rw [h6]
    generalize M * 2 ^ (E + 120).toNat = V at hpos ⊢
    rcases h2 with rfl | rfl
    · exact ⟨by unfold sgI; rw [if_neg (by omega), if_neg (by omega)], fun _ => ⟨by omega, h4, h5, h3⟩⟩
    · exact ⟨by unfold sgI; rw [if_pos (by omega)], fun _ => ⟨by omega, h4, h5, h3⟩⟩
set_option maxHeartbeats 8000000 in
set_option maxRecDepth 100000 in
theorem p_Madd {d n tc a1 a2 a3 : Nat} {wd pt tf : Nat → Nat} {Q : Nat → Int} {qn : Nat → Bool} {L : List Nat} {th : Int} {h : zH} (hM : MD h wd pt Q qn tf tc L th) (hPL : PL wd pt) (h1 : a1 < 32) (h2 : a2 < 32) (h3 : a3 < 32) (hd : 8 ≤ d) :
    zM yX11_add cX11_add 4 none d 0 0 [.ref 47, .int (iI (a1:Nat)), .int (iI (a2:Nat)), .int (iI (a3:Nat))] h n (fun r9 h' n' => r9 = none ∧ n' = n ∧ MD h' wd (zup pt a3 (mjn wd pt a1 a2 a3 1)) Q qn tf tc L 0 ∧ zFr MOL h h') := by
  obtain ⟨vs, vm, ve, sg, e, rt, at9, sz, dg, pw, tn, fm, h_47, h_48, h_49, ⟨nA, nB, nL, nR, nP, nS, nN, nD, nLo, nUp⟩, h_58, ⟨Q0, n0, hS⟩, hq, h_66, ⟨tx, h_67, hbb, htx⟩, ⟨fg, h_68⟩, ⟨fw, h_73⟩⟩ := id hM
  refine zM_of zyX11_add rfl (Nat.le_of_ble_eq_true rfl) (fun X hX => ?_)
  have fr : zFr MOL h h := zFr.rf
  refine v_aload_n dX11_add_0 rfl ?_
  refine v_iload_n dX11_add_1 rfl ?_
  refine v_iload_n dX11_add_2 rfl ?_
  refine v_iload_n dX11_add_3 rfl ?_
  refine v_iconst (iI 1) dX11_add_4 rfl ?_
  refine v_cV (av := [.int (iI (a1:Nat)), .int (iI (a2:Nat)), .int (iI (a3:Nat)), .int (iI 1)]) (st := []) zyX11_joined lX11_232 h_47 rfl (p_joined (d := 7) hM hPL h1 h2 h3 (Or.inl rfl) (by decide)) dX11_add_5 rfl rfl (Nat.le_of_ble_eq_true rfl) (by omega) (Nat.le_of_ble_eq_true rfl) (Nat.le_of_ble_eq_true rfl) (Or.inl (fun _ _ _ q => ZN q)) (fun r9 G1 n9 q9 => ?_)
  obtain ⟨rfl, q9n, hM, fr9⟩ := q9
  have q9n := q9n.symm
  subst q9n
  exact v_vret dX11_add_8 trivial (Nat.le_of_ble_eq_true rfl) (Nat.le_of_ble_eq_true rfl) ⟨rfl, rfl, hM, fr9⟩
set_option maxHeartbeats 8000000 in
set_option maxRecDepth 100000 in
theorem p_Maddx {d n tc : Nat} {wd pt tf : Nat → Nat} {Q : Nat → Int} {qn : Nat → Bool} {L : List Nat} {th p q r : Int} {h : zH} (hM : MD h wd pt Q qn tf tc L th) (hp : -2147483648 ≤ p ∧ p < 2147483648) (hq9 : -2147483648 ≤ q ∧ q < 2147483648) (hr : -2147483648 ≤ r ∧ r < 2147483648) (hpl : (isP p && (isP q && isP r)) = false) (hd : 3 ≤ d) :
    zM yX11_add cX11_add 4 none d 0 0 [.ref 47, .int (iI p), .int (iI q), .int (iI r)] h n (fun r9 h' n' => r9 = none ∧ n' = n ∧ MD h' wd pt Q qn tf tc L 1 ∧ zFr MOL h h') := by
  obtain ⟨vs, vm, ve, sg, e, rt, at9, sz, dg, pw, tn, fm, h_47, h_48, h_49, ⟨nA, nB, nL, nR, nP, nS, nN, nD, nLo, nUp⟩, h_58, ⟨Q0, n0, hS⟩, hq, h_66, ⟨tx, h_67, hbb, htx⟩, ⟨fg, h_68⟩, ⟨fw, h_73⟩⟩ := id hM
  refine zM_of zyX11_add rfl (Nat.le_of_ble_eq_true rfl) (fun X hX => ?_)
  have fr : zFr MOL h h := zFr.rf
  refine v_aload_n dX11_add_0 rfl ?_
  refine v_iload_n dX11_add_1 rfl ?_
  refine v_iload_n dX11_add_2 rfl ?_
  refine v_iload_n dX11_add_3 rfl ?_
  refine v_iconst (iI 1) dX11_add_4 rfl ?_
  refine v_cV (av := [.int (iI p), .int (iI q), .int (iI r), .int (iI 1)]) (st := []) zyX11_joined lX11_232 h_47 rfl (p_joinedx (d := 2) hM hp hq9 hr hpl (by decide)) dX11_add_5 rfl rfl (Nat.le_of_ble_eq_true rfl) (by omega) (Nat.le_of_ble_eq_true rfl) (Nat.le_of_ble_eq_true rfl) (Or.inl (fun _ _ _ q => ZN q)) (fun r9 G1 n9 q9 => ?_)
  obtain ⟨rfl, q9n, hM, fr9⟩ := q9
  have q9n := q9n.symm
  subst q9n
  exact v_vret dX11_add_8 trivial (Nat.le_of_ble_eq_true rfl) (Nat.le_of_ble_eq_true rfl) ⟨rfl, rfl, hM, fr9⟩
set_option maxHeartbeats 8000000 in
set_option maxRecDepth 100000 in
theorem p_Mless {d n tc a1 a2 a3 : Nat} {wd pt tf : Nat → Nat} {Q : Nat → Int} {qn : Nat → Bool} {L : List Nat} {th : Int} {h : zH} (hM : MD h wd pt Q qn tf tc L th) (hPL : PL wd pt) (h1 : a1 < 32) (h2 : a2 < 32) (h3 : a3 < 32) (hd : 8 ≤ d) :
    zM yX11_less cX11_less 4 none d 0 0 [.ref 47, .int (iI (a1:Nat)), .int (iI (a2:Nat)), .int (iI (a3:Nat))] h n (fun r9 h' n' => r9 = none ∧ n' = n ∧ MD h' wd (zup pt a3 (mjn wd pt a1 a2 a3 (-1))) Q qn tf tc L 0 ∧ zFr MOL h h') := by
  obtain ⟨vs, vm, ve, sg, e, rt, at9, sz, dg, pw, tn, fm, h_47, h_48, h_49, ⟨nA, nB, nL, nR, nP, nS, nN, nD, nLo, nUp⟩, h_58, ⟨Q0, n0, hS⟩, hq, h_66, ⟨tx, h_67, hbb, htx⟩, ⟨fg, h_68⟩, ⟨fw, h_73⟩⟩ := id hM
  refine zM_of zyX11_less rfl (Nat.le_of_ble_eq_true rfl) (fun X hX => ?_)
  have fr : zFr MOL h h := zFr.rf
  refine v_aload_n dX11_less_0 rfl ?_
  refine v_iload_n dX11_less_1 rfl ?_
  refine v_iload_n dX11_less_2 rfl ?_
  refine v_iload_n dX11_less_3 rfl ?_
  refine v_iconst (iI (-1)) dX11_less_4 rfl ?_
  refine v_cV (av := [.int (iI (a1:Nat)), .int (iI (a2:Nat)), .int (iI (a3:Nat)), .int (iI (-1))]) (st := []) zyX11_joined lX11_232 h_47 rfl (p_joined (d := 7) hM hPL h1 h2 h3 (Or.inr rfl) (by decide)) dX11_less_5 rfl rfl (Nat.le_of_ble_eq_true rfl) (by omega) (Nat.le_of_ble_eq_true rfl) (Nat.le_of_ble_eq_true rfl) (Or.inl (fun _ _ _ q => ZN q)) (fun r9 G1 n9 q9 => ?_)
  obtain ⟨rfl, q9n, hM, fr9⟩ := q9
  have q9n := q9n.symm
  subst q9n
  exact v_vret dX11_less_8 trivial (Nat.le_of_ble_eq_true rfl) (Nat.le_of_ble_eq_true rfl) ⟨rfl, rfl, hM, fr9⟩
set_option maxHeartbeats 8000000 in
set_option maxRecDepth 100000 in
theorem p_Mlessx {d n tc : Nat} {wd pt tf : Nat → Nat} {Q : Nat → Int} {qn : Nat → Bool} {L : List Nat} {th p q r : Int} {h : zH} (hM : MD h wd pt Q qn tf tc L th) (hp : -2147483648 ≤ p ∧ p < 2147483648) (hq9 : -2147483648 ≤ q ∧ q < 2147483648) (hr : -2147483648 ≤ r ∧ r < 2147483648) (hpl : (isP p && (isP q && isP r)) = false) (hd : 3 ≤ d) :
    zM yX11_less cX11_less 4 none d 0 0 [.ref 47, .int (iI p), .int (iI q), .int (iI r)] h n (fun r9 h' n' => r9 = none ∧ n' = n ∧ MD h' wd pt Q qn tf tc L 1 ∧ zFr MOL h h') := by
  obtain ⟨vs, vm, ve, sg, e, rt, at9, sz, dg, pw, tn, fm, h_47, h_48, h_49, ⟨nA, nB, nL, nR, nP, nS, nN, nD, nLo, nUp⟩, h_58, ⟨Q0, n0, hS⟩, hq, h_66, ⟨tx, h_67, hbb, htx⟩, ⟨fg, h_68⟩, ⟨fw, h_73⟩⟩ := id hM
  refine zM_of zyX11_less rfl (Nat.le_of_ble_eq_true rfl) (fun X hX => ?_)
  have fr : zFr MOL h h := zFr.rf
  refine v_aload_n dX11_less_0 rfl ?_
  refine v_iload_n dX11_less_1 rfl ?_
  refine v_iload_n dX11_less_2 rfl ?_
  refine v_iload_n dX11_less_3 rfl ?_
  refine v_iconst (iI (-1)) dX11_less_4 rfl ?_
  refine v_cV (av := [.int (iI p), .int (iI q), .int (iI r), .int (iI (-1))]) (st := []) zyX11_joined lX11_232 h_47 rfl (p_joinedx (d := 2) hM hp hq9 hr hpl (by decide)) dX11_less_5 rfl rfl (Nat.le_of_ble_eq_true rfl) (by omega) (Nat.le_of_ble_eq_true rfl) (Nat.le_of_ble_eq_true rfl) (Or.inl (fun _ _ _ q => ZN q)) (fun r9 G1 n9 q9 => ?_)
  obtain ⟨rfl, q9n, hM, fr9⟩ := q9
  have q9n := q9n.symm
  subst q9n
  exact v_vret dX11_less_8 trivial (Nat.le_of_ble_eq_true rfl) (Nat.le_of_ble_eq_true rfl) ⟨rfl, rfl, hM, fr9⟩
set_option maxHeartbeats 8000000 in
set_option maxRecDepth 100000 in
theorem p_Mtimesx {d n tc : Nat} {wd pt tf : Nat → Nat} {Q : Nat → Int} {qn : Nat → Bool} {L : List Nat} {th p q r : Int} {h : zH} (hM : MD h wd pt Q qn tf tc L th) (hp : -2147483648 ≤ p ∧ p < 2147483648) (hq9 : -2147483648 ≤ q ∧ q < 2147483648) (hr : -2147483648 ≤ r ∧ r < 2147483648) (hpl : (isP p && (isP q && isP r)) = false) (hd : 2 ≤ d) :
    zM yX11_times cX11_times 4 none d 0 0 [.ref 47, .int (iI p), .int (iI q), .int (iI r)] h n (fun r9 h' n' => r9 = none ∧ n' = n ∧ MD h' wd pt Q qn tf tc L 1 ∧ zFr MOL h h') := by
  obtain ⟨vs, vm, ve, sg, e, rt, at9, sz, dg, pw, tn, fm, h_47, h_48, h_49, ⟨nA, nB, nL, nR, nP, nS, nN, nD, nLo, nUp⟩, h_58, ⟨Q0, n0, hS⟩, hq, h_66, ⟨tx, h_67, hbb, htx⟩, ⟨fg, h_68⟩, ⟨fw, h_73⟩⟩ := id hM
  refine zM_of zyX11_times rfl (Nat.le_of_ble_eq_true rfl) (fun X hX => ?_)
  have fr : zFr MOL h h := zFr.rf
  refine v_aload_n dX11_times_0 rfl ?_
  refine v_iload_n dX11_times_1 rfl ?_
  refine v_iload_n dX11_times_2 rfl ?_
  refine v_iload_n dX11_times_3 rfl ?_
  refine v_cV (av := [.int (iI p), .int (iI q), .int (iI r)]) (st := []) zyX11_goesThree lX11_224 h_47 rfl (p_goesThreeF (d := 1) h_47 hp hq9 hr hpl (by decide)) dX11_times_4 rfl rfl (Nat.le_of_ble_eq_true rfl) (by omega) (Nat.le_of_ble_eq_true rfl) (Nat.le_of_ble_eq_true rfl) (Or.inl (fun _ _ _ q => ZN q)) (fun r9 G1 n9 q9 => ?_)
  obtain ⟨rfl, q9n, h_47, fr9⟩ := q9
  have q9n := q9n.symm
  subst q9n
  have h_48 := (fr9 48 (by decide)).trans h_48
  have h_49 := (fr9 49 (by decide)).trans h_49
  have h_58 := (fr9 58 (by decide)).trans h_58
  have h_66 := (fr9 66 (by decide)).trans h_66
  have h_67 := (fr9 67 (by decide)).trans h_67
  have h_68 := (fr9 68 (by decide)).trans h_68
  have h_73 := (fr9 73 (by decide)).trans h_73
  have nA := nA.fr fr9 (by decide) (by decide)
  have nB := nB.fr fr9 (by decide) (by decide)
  have nL := nL.fr fr9 (by decide) (by decide)
  have nR := nR.fr fr9 (by decide) (by decide)
  have nP := nP.fr fr9 (by decide) (by decide)
  have nS := nS.fr fr9 (by decide) (by decide)
  have nN := nN.fr fr9 (by decide) (by decide)
  have nD := nD.fr fr9 (by decide) (by decide)
  have nLo := nLo.fr fr9 (by decide) (by decide)
  have nUp := nUp.fr fr9 (by decide) (by decide)
  have hS := hS.fr fr9 (by decide) (by decide) (by decide)
  have hq := hq.fr fr9 (by decide)
  have fr := fr.tr fr9 (by decide)
  refine w_ifb_ne 11 dX11_times_7 (by decide) (fun c1 => ?_) (fun c1 => ?_)
  · exact absurd c1 (by decide)
  · skip
    exact v_vret dX11_times_10 trivial (Nat.le_of_ble_eq_true rfl) (Nat.le_of_ble_eq_true rfl) ⟨rfl, rfl, ⟨_, _, _, _, _, _, _, _, _, _, _, _, h_47, h_48, h_49, ⟨nA, nB, nL, nR, nP, nS, nN, nD, nLo, nUp⟩, h_58, ⟨_, _, hS⟩, hq, h_66, ⟨_, h_67, hbb, htx⟩, ⟨_, h_68⟩, ⟨_, h_73⟩⟩, fr⟩
set_option maxHeartbeats 8000000 in
set_option maxRecDepth 100000 in
theorem p_Moverx {d n tc : Nat} {wd pt tf : Nat → Nat} {Q : Nat → Int} {qn : Nat → Bool} {L : List Nat} {th p q r : Int} {h : zH} (hM : MD h wd pt Q qn tf tc L th) (hp : -2147483648 ≤ p ∧ p < 2147483648) (hq9 : -2147483648 ≤ q ∧ q < 2147483648) (hr : -2147483648 ≤ r ∧ r < 2147483648) (hpl : (isP p && (isP q && isP r)) = false) (hd : 2 ≤ d) :
    zM yX11_over cX11_over 8 none d 0 0 [.ref 47, .int (iI p), .int (iI q), .int (iI r)] h n (fun r9 h' n' => r9 = none ∧ n' = n ∧ MD h' wd pt Q qn tf tc L 1 ∧ zFr MOL h h') := by
  obtain ⟨vs, vm, ve, sg, e, rt, at9, sz, dg, pw, tn, fm, h_47, h_48, h_49, ⟨nA, nB, nL, nR, nP, nS, nN, nD, nLo, nUp⟩, h_58, ⟨Q0, n0, hS⟩, hq, h_66, ⟨tx, h_67, hbb, htx⟩, ⟨fg, h_68⟩, ⟨fw, h_73⟩⟩ := id hM
  refine zM_of zyX11_over rfl (Nat.le_of_ble_eq_true rfl) (fun X hX => ?_)
  have fr : zFr MOL h h := zFr.rf
  refine v_aload_n dX11_over_0 rfl ?_
  refine v_iload_n dX11_over_1 rfl ?_
  refine v_iload_n dX11_over_2 rfl ?_
  refine v_iload_n dX11_over_3 rfl ?_
  refine v_cV (av := [.int (iI p), .int (iI q), .int (iI r)]) (st := []) zyX11_goesThree lX11_224 h_47 rfl (p_goesThreeF (d := 1) h_47 hp hq9 hr hpl (by decide)) dX11_over_4 rfl rfl (Nat.le_of_ble_eq_true rfl) (by omega) (Nat.le_of_ble_eq_true rfl) (Nat.le_of_ble_eq_true rfl) (Or.inl (fun _ _ _ q => ZN q)) (fun r9 G1 n9 q9 => ?_)
  obtain ⟨rfl, q9n, h_47, fr9⟩ := q9
  have q9n := q9n.symm
  subst q9n
  have h_48 := (fr9 48 (by decide)).trans h_48
  have h_49 := (fr9 49 (by decide)).trans h_49
  have h_58 := (fr9 58 (by decide)).trans h_58
  have h_66 := (fr9 66 (by decide)).trans h_66
  have h_67 := (fr9 67 (by decide)).trans h_67
  have h_68 := (fr9 68 (by decide)).trans h_68
  have h_73 := (fr9 73 (by decide)).trans h_73
  have nA := nA.fr fr9 (by decide) (by decide)
  have nB := nB.fr fr9 (by decide) (by decide)
  have nL := nL.fr fr9 (by decide) (by decide)
  have nR := nR.fr fr9 (by decide) (by decide)
  have nP := nP.fr fr9 (by decide) (by decide)
  have nS := nS.fr fr9 (by decide) (by decide)
  have nN := nN.fr fr9 (by decide) (by decide)
  have nD := nD.fr fr9 (by decide) (by decide)
  have nLo := nLo.fr fr9 (by decide) (by decide)
  have nUp := nUp.fr fr9 (by decide) (by decide)
  have hS := hS.fr fr9 (by decide) (by decide) (by decide)
  have hq := hq.fr fr9 (by decide)
  have fr := fr.tr fr9 (by decide)
  refine w_ifb_ne 11 dX11_over_7 (by decide) (fun c1 => ?_) (fun c1 => ?_)
  · exact absurd c1 (by decide)
  · skip
    exact v_vret dX11_over_10 trivial (Nat.le_of_ble_eq_true rfl) (Nat.le_of_ble_eq_true rfl) ⟨rfl, rfl, ⟨_, _, _, _, _, _, _, _, _, _, _, _, h_47, h_48, h_49, ⟨nA, nB, nL, nR, nP, nS, nN, nD, nLo, nUp⟩, h_58, ⟨_, _, hS⟩, hq, h_66, ⟨_, h_67, hbb, htx⟩, ⟨_, h_68⟩, ⟨_, h_73⟩⟩, fr⟩
set_option maxHeartbeats 8000000 in
set_option maxRecDepth 100000 in
theorem p_Mfusedx {d n tc : Nat} {wd pt tf : Nat → Nat} {Q : Nat → Int} {qn : Nat → Bool} {L : List Nat} {th p q r : Int} {h : zH} (hM : MD h wd pt Q qn tf tc L th) (hp : -2147483648 ≤ p ∧ p < 2147483648) (hq9 : -2147483648 ≤ q ∧ q < 2147483648) (hr : -2147483648 ≤ r ∧ r < 2147483648) (hpl : (isP p && (isP q && isP r)) = false) (hd : 2 ≤ d) :
    zM yX11_fused cX11_fused 4 none d 0 0 [.ref 47, .int (iI p), .int (iI q), .int (iI r)] h n (fun r9 h' n' => r9 = none ∧ n' = n ∧ MD h' wd pt Q qn tf tc L 1 ∧ zFr MOL h h') := by
  obtain ⟨vs, vm, ve, sg, e, rt, at9, sz, dg, pw, tn, fm, h_47, h_48, h_49, ⟨nA, nB, nL, nR, nP, nS, nN, nD, nLo, nUp⟩, h_58, ⟨Q0, n0, hS⟩, hq, h_66, ⟨tx, h_67, hbb, htx⟩, ⟨fg, h_68⟩, ⟨fw, h_73⟩⟩ := id hM
  refine zM_of zyX11_fused rfl (Nat.le_of_ble_eq_true rfl) (fun X hX => ?_)
  have fr : zFr MOL h h := zFr.rf
  refine v_aload_n dX11_fused_0 rfl ?_
  refine v_iload_n dX11_fused_1 rfl ?_
  refine v_iload_n dX11_fused_2 rfl ?_
  refine v_iload_n dX11_fused_3 rfl ?_
  refine v_cV (av := [.int (iI p), .int (iI q), .int (iI r)]) (st := []) zyX11_goesThree lX11_224 h_47 rfl (p_goesThreeF (d := 1) h_47 hp hq9 hr hpl (by decide)) dX11_fused_4 rfl rfl (Nat.le_of_ble_eq_true rfl) (by omega) (Nat.le_of_ble_eq_true rfl) (Nat.le_of_ble_eq_true rfl) (Or.inl (fun _ _ _ q => ZN q)) (fun r9 G1 n9 q9 => ?_)
  obtain ⟨rfl, q9n, h_47, fr9⟩ := q9
  have q9n := q9n.symm
  subst q9n
  have h_48 := (fr9 48 (by decide)).trans h_48
  have h_49 := (fr9 49 (by decide)).trans h_49
  have h_58 := (fr9 58 (by decide)).trans h_58
  have h_66 := (fr9 66 (by decide)).trans h_66
  have h_67 := (fr9 67 (by decide)).trans h_67
  have h_68 := (fr9 68 (by decide)).trans h_68
  have h_73 := (fr9 73 (by decide)).trans h_73
  have nA := nA.fr fr9 (by decide) (by decide)
  have nB := nB.fr fr9 (by decide) (by decide)
  have nL := nL.fr fr9 (by decide) (by decide)
  have nR := nR.fr fr9 (by decide) (by decide)
  have nP := nP.fr fr9 (by decide) (by decide)
  have nS := nS.fr fr9 (by decide) (by decide)
  have nN := nN.fr fr9 (by decide) (by decide)
  have nD := nD.fr fr9 (by decide) (by decide)
  have nLo := nLo.fr fr9 (by decide) (by decide)
  have nUp := nUp.fr fr9 (by decide) (by decide)
  have hS := hS.fr fr9 (by decide) (by decide) (by decide)
  have hq := hq.fr fr9 (by decide)
  have fr := fr.tr fr9 (by decide)
  refine w_ifb_ne 11 dX11_fused_7 (by decide) (fun c1 => ?_) (fun c1 => ?_)
  · exact absurd c1 (by decide)
  · skip
    exact v_vret dX11_fused_10 trivial (Nat.le_of_ble_eq_true rfl) (Nat.le_of_ble_eq_true rfl) ⟨rfl, rfl, ⟨_, _, _, _, _, _, _, _, _, _, _, _, h_47, h_48, h_49, ⟨nA, nB, nL, nR, nP, nS, nN, nD, nLo, nUp⟩, h_58, ⟨_, _, hS⟩, hq, h_66, ⟨_, h_67, hbb, htx⟩, ⟨_, h_68⟩, ⟨_, h_73⟩⟩, fr⟩
set_option maxHeartbeats 8000000 in
set_option maxRecDepth 100000 in
theorem p_Mfarx {d n tc : Nat} {wd pt tf : Nat → Nat} {Q : Nat → Int} {qn : Nat → Bool} {L : List Nat} {th p q r : Int} {h : zH} (hM : MD h wd pt Q qn tf tc L th) (hp : -2147483648 ≤ p ∧ p < 2147483648) (hq9 : -2147483648 ≤ q ∧ q < 2147483648) (hr : -2147483648 ≤ r ∧ r < 2147483648) (hpl : (isP p && (isP q && isP r)) = false) (hd : 2 ≤ d) :
    zM yX11_far cX11_far 4 none d 0 0 [.ref 47, .int (iI p), .int (iI q), .int (iI r)] h n (fun r9 h' n' => r9 = none ∧ n' = n ∧ MD h' wd pt Q qn tf tc L 1 ∧ zFr MOL h h') := by
  obtain ⟨vs, vm, ve, sg, e, rt, at9, sz, dg, pw, tn, fm, h_47, h_48, h_49, ⟨nA, nB, nL, nR, nP, nS, nN, nD, nLo, nUp⟩, h_58, ⟨Q0, n0, hS⟩, hq, h_66, ⟨tx, h_67, hbb, htx⟩, ⟨fg, h_68⟩, ⟨fw, h_73⟩⟩ := id hM
  refine zM_of zyX11_far rfl (Nat.le_of_ble_eq_true rfl) (fun X hX => ?_)
  have fr : zFr MOL h h := zFr.rf
  refine v_aload_n dX11_far_0 rfl ?_
  refine v_iload_n dX11_far_1 rfl ?_
  refine v_iload_n dX11_far_2 rfl ?_
  refine v_iload_n dX11_far_3 rfl ?_
  refine v_cV (av := [.int (iI p), .int (iI q), .int (iI r)]) (st := []) zyX11_goesThree lX11_224 h_47 rfl (p_goesThreeF (d := 1) h_47 hp hq9 hr hpl (by decide)) dX11_far_4 rfl rfl (Nat.le_of_ble_eq_true rfl) (by omega) (Nat.le_of_ble_eq_true rfl) (Nat.le_of_ble_eq_true rfl) (Or.inl (fun _ _ _ q => ZN q)) (fun r9 G1 n9 q9 => ?_)
  obtain ⟨rfl, q9n, h_47, fr9⟩ := q9
  have q9n := q9n.symm
  subst q9n
  have h_48 := (fr9 48 (by decide)).trans h_48
  have h_49 := (fr9 49 (by decide)).trans h_49
  have h_58 := (fr9 58 (by decide)).trans h_58
  have h_66 := (fr9 66 (by decide)).trans h_66
  have h_67 := (fr9 67 (by decide)).trans h_67
  have h_68 := (fr9 68 (by decide)).trans h_68
  have h_73 := (fr9 73 (by decide)).trans h_73
  have nA := nA.fr fr9 (by decide) (by decide)
  have nB := nB.fr fr9 (by decide) (by decide)
  have nL := nL.fr fr9 (by decide) (by decide)
  have nR := nR.fr fr9 (by decide) (by decide)
  have nP := nP.fr fr9 (by decide) (by decide)
  have nS := nS.fr fr9 (by decide) (by decide)
  have nN := nN.fr fr9 (by decide) (by decide)
  have nD := nD.fr fr9 (by decide) (by decide)
  have nLo := nLo.fr fr9 (by decide) (by decide)
  have nUp := nUp.fr fr9 (by decide) (by decide)
  have hS := hS.fr fr9 (by decide) (by decide) (by decide)
  have hq := hq.fr fr9 (by decide)
  have fr := fr.tr fr9 (by decide)
  refine w_ifb_ne 11 dX11_far_7 (by decide) (fun c1 => ?_) (fun c1 => ?_)
  · exact absurd c1 (by decide)
  · skip
    exact v_vret dX11_far_10 trivial (Nat.le_of_ble_eq_true rfl) (Nat.le_of_ble_eq_true rfl) ⟨rfl, rfl, ⟨_, _, _, _, _, _, _, _, _, _, _, _, h_47, h_48, h_49, ⟨nA, nB, nL, nR, nP, nS, nN, nD, nLo, nUp⟩, h_58, ⟨_, _, hS⟩, hq, h_66, ⟨_, h_67, hbb, htx⟩, ⟨_, h_68⟩, ⟨_, h_73⟩⟩, fr⟩
noncomputable def mtmS (wd pt : Nat → Nat) (a1 a2 a3 : Nat) : Int := 0 + 1 * (pvI (pt a1) (wd a1) * pvI (pt a2) (wd a2))
noncomputable def mtm (wd pt : Nat → Nat) (a1 a2 a3 : Nat) : Nat := if pt a1 = 2 ^ (wd a1 - 1) ∨ pt a2 = 2 ^ (wd a2 - 1) then 2 ^ (wd a3 - 1) else rdR (sgI (mtmS wd pt a1 a2 a3)) (CP (mtmS wd pt a1 a2 a3).natAbs 1 (-240) 1) (wd a3)
set_option maxHeartbeats 8000000 in
set_option maxRecDepth 100000 in
theorem p_Mtimes {d n tc a1 a2 a3 : Nat} {wd pt tf : Nat → Nat} {Q : Nat → Int} {qn : Nat → Bool} {L : List Nat} {th : Int} {h : zH} (hM : MD h wd pt Q qn tf tc L th) (hPL : PL wd pt) (h1 : a1 < 32) (h2 : a2 < 32) (h3 : a3 < 32) (hd : 7 ≤ d) :
    zM yX11_times cX11_times 4 none d 0 0 [.ref 47, .int (iI (a1:Nat)), .int (iI (a2:Nat)), .int (iI (a3:Nat))] h n (fun r9 h' n' => r9 = none ∧ n' = n ∧ MD h' wd (zup pt a3 (mtm wd pt a1 a2 a3)) Q qn tf tc L 0 ∧ zFr MOL h h') := by
  obtain ⟨vs, vm, ve, sg, e, rt, at9, sz, dg, pw, tn, fm, h_47, h_48, h_49, ⟨nA, nB, nL, nR, nP, nS, nN, nD, nLo, nUp⟩, h_58, ⟨Q0, n0, hS⟩, hq, h_66, ⟨tx, h_67, hbb, htx⟩, ⟨fg, h_68⟩, ⟨fw, h_73⟩⟩ := id hM
  have w1 := hPL a1 h1
  have w2 := hPL a2 h2
  have w3 := hPL a3 h3
  refine zM_of zyX11_times rfl (Nat.le_of_ble_eq_true rfl) (fun X hX => ?_)
  have fr : zFr MOL h h := zFr.rf
  refine v_aload_n dX11_times_0 rfl ?_
  refine v_iload_n dX11_times_1 rfl ?_
  refine v_iload_n dX11_times_2 rfl ?_
  refine v_iload_n dX11_times_3 rfl ?_
  refine v_cV (av := [.int (iI (a1:Nat)), .int (iI (a2:Nat)), .int (iI (a3:Nat))]) (st := []) zyX11_goesThree lX11_224 h_47 rfl (p_goesThreeT (d := 6) h_47 h1 h2 h3 (by decide)) dX11_times_4 rfl rfl (Nat.le_of_ble_eq_true rfl) (by omega) (Nat.le_of_ble_eq_true rfl) (Nat.le_of_ble_eq_true rfl) (Or.inl (fun _ _ _ q => ZN q)) (fun r9 G1 n9 q9 => ?_)
  obtain ⟨rfl, q9n, h_47, fr9⟩ := q9
  have q9n := q9n.symm
  subst q9n
  have h_48 := (fr9 48 (by decide)).trans h_48
  have h_49 := (fr9 49 (by decide)).trans h_49
  have h_58 := (fr9 58 (by decide)).trans h_58
  have h_66 := (fr9 66 (by decide)).trans h_66
  have h_67 := (fr9 67 (by decide)).trans h_67
  have h_68 := (fr9 68 (by decide)).trans h_68
  have h_73 := (fr9 73 (by decide)).trans h_73
  have nA := nA.fr fr9 (by decide) (by decide)
  have nB := nB.fr fr9 (by decide) (by decide)
  have nL := nL.fr fr9 (by decide) (by decide)
  have nR := nR.fr fr9 (by decide) (by decide)
  have nP := nP.fr fr9 (by decide) (by decide)
  have nS := nS.fr fr9 (by decide) (by decide)
  have nN := nN.fr fr9 (by decide) (by decide)
  have nD := nD.fr fr9 (by decide) (by decide)
  have nLo := nLo.fr fr9 (by decide) (by decide)
  have nUp := nUp.fr fr9 (by decide) (by decide)
  have hS := hS.fr fr9 (by decide) (by decide) (by decide)
  have hq := hq.fr fr9 (by decide)
  have fr := fr.tr fr9 (by decide)
  refine w_ifb_ne 11 dX11_times_7 (by decide) (fun c1 => ?_) (fun c1 => ?_)
  · have nar : (pt a1 = 2 ^ (wd a1 - 1) ∨ pt a2 = 2 ^ (wd a2 - 1)) → (zV X (fun r9 h' n' => r9 = none ∧ n' = n ∧ MD h' wd (zup pt a3 (mtm wd pt a1 a2 a3)) Q qn tf tc L 0 ∧ zFr MOL h h') cX11_times 4 RX11 none d 0 0 27 [(0, .ref 47), (1, .int (iI (a1:Nat))), (2, .int (iI (a2:Nat))), (3, .int (iI (a3:Nat)))] [] G1 n 0 0) := by
      intro hn
      refine v_aload_n dX11_times_27 rfl ?_
      refine v_iload_n dX11_times_28 rfl ?_
      refine v_cV (av := [.int (iI (a3:Nat))]) (st := []) zyX11_becomeNar lX11_182 h_47 rfl (p_becomeNar (d := 6) h_47 h_48 h_49 h3 ⟨w3.1, w3.2.1⟩) dX11_times_29 rfl rfl (Nat.le_of_ble_eq_true rfl) (by omega) (Nat.le_of_ble_eq_true rfl) (Nat.le_of_ble_eq_true rfl) (Or.inl (fun _ _ _ q => ZN q)) (fun r9 G2 n9 q9 => ?_)
      obtain ⟨rfl, q9n, h_49, fr8⟩ := q9
      have q9n := q9n.symm
      subst q9n
      have h_47 := (fr8 47 (by decide)).trans h_47
      have h_48 := (fr8 48 (by decide)).trans h_48
      have h_58 := (fr8 58 (by decide)).trans h_58
      have h_66 := (fr8 66 (by decide)).trans h_66
      have h_67 := (fr8 67 (by decide)).trans h_67
      have h_68 := (fr8 68 (by decide)).trans h_68
      have h_73 := (fr8 73 (by decide)).trans h_73
      have nA := nA.fr fr8 (by decide) (by decide)
      have nB := nB.fr fr8 (by decide) (by decide)
      have nL := nL.fr fr8 (by decide) (by decide)
      have nR := nR.fr fr8 (by decide) (by decide)
      have nP := nP.fr fr8 (by decide) (by decide)
      have nS := nS.fr fr8 (by decide) (by decide)
      have nN := nN.fr fr8 (by decide) (by decide)
      have nD := nD.fr fr8 (by decide) (by decide)
      have nLo := nLo.fr fr8 (by decide) (by decide)
      have nUp := nUp.fr fr8 (by decide) (by decide)
      have hS := hS.fr fr8 (by decide) (by decide) (by decide)
      have hq := hq.fr fr8 (by decide)
      have fr := fr.tr fr8 (by decide)
      exact v_vret dX11_times_32 trivial (Nat.le_of_ble_eq_true rfl) (Nat.le_of_ble_eq_true rfl) ⟨rfl, rfl, by unfold mtm; rw [if_pos hn]; exact ⟨_, _, _, _, _, _, _, _, _, _, _, _, h_47, h_48, h_49, ⟨nA, nB, nL, nR, nP, nS, nN, nD, nLo, nUp⟩, h_58, ⟨_, _, hS⟩, hq, h_66, ⟨_, h_67, hbb, htx⟩, ⟨_, h_68⟩, ⟨_, h_73⟩⟩, fr⟩
    refine v_aload_n dX11_times_11 rfl ?_
    refine v_iload_n dX11_times_12 rfl ?_
    refine v_cV (av := [.int (iI (a1:Nat))]) (st := []) zyX11_isNar lX11_176 h_47 rfl (p_misNar (d := 6) h_47 h_48 h_49 hPL h1) dX11_times_13 rfl rfl (Nat.le_of_ble_eq_true rfl) (by omega) (Nat.le_of_ble_eq_true rfl) (Nat.le_of_ble_eq_true rfl) (Or.inl (fun _ _ _ q => ZN q)) (fun r9 K1 n9 q9 => ?_)
    obtain ⟨rfl, q9n, q9h⟩ := q9
    have q9n := q9n.symm
    subst q9n
    have q9h := q9h.symm
    subst q9h
    refine w_ifb_ne 27 dX11_times_16 (by decide) (fun x1 => ?_) (fun x1 => ?_)
    · exact nar (Or.inl (of_decide_eq_true x1))
    · have x1 := of_decide_eq_false x1
      refine v_aload_n dX11_times_19 rfl ?_
      refine v_iload_n dX11_times_20 rfl ?_
      refine v_cV (av := [.int (iI (a2:Nat))]) (st := []) zyX11_isNar lX11_176 h_47 rfl (p_misNar (d := 6) h_47 h_48 h_49 hPL h2) dX11_times_21 rfl rfl (Nat.le_of_ble_eq_true rfl) (by omega) (Nat.le_of_ble_eq_true rfl) (Nat.le_of_ble_eq_true rfl) (Or.inl (fun _ _ _ q => ZN q)) (fun r9 K2 n9 q9 => ?_)
      obtain ⟨rfl, q9n, q9h⟩ := q9
      have q9n := q9n.symm
      subst q9n
      have q9h := q9h.symm
      subst q9h
      refine w_ifb_eq 33 dX11_times_24 (by decide) (fun x2 => ?_) (fun x2 => ?_)
      · have x2 := of_decide_eq_false x2
        have hn : ¬ (pt a1 = 2 ^ (wd a1 - 1) ∨ pt a2 = 2 ^ (wd a2 - 1)) := (fun z => z.elim x1 x2)
        have b1 := pv_b ⟨w1.1, w1.2.1⟩ w1.2.2 x1
        have b2 := pv_b ⟨w2.1, w2.2.1⟩ w2.2.2 x2
        have e120 : nb ((2 ^ 120 : Nat) : Int).natAbs ≤ 130 := nb_le (by decide)
        have c0 := nb_mulZ (x := pvI (pt a1) (wd a1)) (y := pvI (pt a2) (wd a2))
        have d0 := nb_mulZ (x := 1) (y := pvI (pt a1) (wd a1) * pvI (pt a2) (wd a2))
        rw [nb_one (Or.inl rfl)] at d0
        have s0 := nb_addZ (x := 0) (y := 1 * (pvI (pt a1) (wd a1) * pvI (pt a2) (wd a2))) (k := 700) (Nat.zero_le _) (by omega)
        refine v_aload_n dX11_times_33 rfl ?_
        refine v_get fX11_134 dX11_times_34 h_47 (by decide) rfl ?_
        obtain ⟨h_59, -⟩ := id hS
        refine v_cV (av := []) (st := []) zyX10_clear lX11_217 h_59 rfl (p_sclear (d := 6) hS) dX11_times_37 rfl rfl (Nat.le_of_ble_eq_true rfl) (by omega) (Nat.le_of_ble_eq_true rfl) (Nat.le_of_ble_eq_true rfl) (Or.inl (fun _ _ _ q => ZN q)) (fun r9 G2 n9 q9 => ?_)
        obtain ⟨rfl, q9n, hS, fr8⟩ := q9
        have q9n := q9n.symm
        subst q9n
        have h_47 := (fr8 47 (by decide)).trans h_47
        have h_48 := (fr8 48 (by decide)).trans h_48
        have h_49 := (fr8 49 (by decide)).trans h_49
        have h_58 := (fr8 58 (by decide)).trans h_58
        have h_66 := (fr8 66 (by decide)).trans h_66
        have h_67 := (fr8 67 (by decide)).trans h_67
        have h_68 := (fr8 68 (by decide)).trans h_68
        have h_73 := (fr8 73 (by decide)).trans h_73
        have nA := nA.fr fr8 (by decide) (by decide)
        have nB := nB.fr fr8 (by decide) (by decide)
        have nL := nL.fr fr8 (by decide) (by decide)
        have nR := nR.fr fr8 (by decide) (by decide)
        have nP := nP.fr fr8 (by decide) (by decide)
        have nS := nS.fr fr8 (by decide) (by decide)
        have nN := nN.fr fr8 (by decide) (by decide)
        have nD := nD.fr fr8 (by decide) (by decide)
        have nLo := nLo.fr fr8 (by decide) (by decide)
        have nUp := nUp.fr fr8 (by decide) (by decide)
        have hq := hq.fr fr8 (by decide)
        have fr := fr.tr fr8 (by decide)
        refine v_aload_n dX11_times_40 rfl ?_
        refine v_aload_n dX11_times_41 rfl ?_
        refine v_get fX11_134 dX11_times_42 h_47 (by decide) rfl ?_
        refine v_iload_n dX11_times_45 rfl ?_
        refine v_iload_n dX11_times_46 rfl ?_
        refine v_iconst (iI 1) dX11_times_47 rfl ?_
        refine v_cV (av := [.ref 59, .int (iI (a1:Nat)), .int (iI (a2:Nat)), .int (iI 1)]) (st := []) zyX11_gatherProduct lX11_236 h_47 rfl (p_gatherProduct (d := 6) h_47 h_48 h_49 hPL h1 h2 x1 x2 hS nP nS (by unfold gne; decide) (Or.inl rfl) (by decide) (by decide)) dX11_times_48 rfl rfl (Nat.le_of_ble_eq_true rfl) (by omega) (Nat.le_of_ble_eq_true rfl) (Nat.le_of_ble_eq_true rfl) (Or.inl (fun _ _ _ q => ZN q)) (fun r9 G3 n9 q9 => ?_)
        obtain ⟨rfl, q9n, ⟨v0a, v0b, v0c, h_47⟩, hS, nP, nS, fr0q⟩ := q9
        have q9n := q9n.symm
        subst q9n
        have h_48 := (fr0q 48 (by decide)).trans h_48
        have h_49 := (fr0q 49 (by decide)).trans h_49
        have h_58 := (fr0q 58 (by decide)).trans h_58
        have h_66 := (fr0q 66 (by decide)).trans h_66
        have h_67 := (fr0q 67 (by decide)).trans h_67
        have h_68 := (fr0q 68 (by decide)).trans h_68
        have h_73 := (fr0q 73 (by decide)).trans h_73
        have nA := nA.fr fr0q (by decide) (by decide)
        have nB := nB.fr fr0q (by decide) (by decide)
        have nL := nL.fr fr0q (by decide) (by decide)
        have nR := nR.fr fr0q (by decide) (by decide)
        have nN := nN.fr fr0q (by decide) (by decide)
        have nD := nD.fr fr0q (by decide) (by decide)
        have nLo := nLo.fr fr0q (by decide) (by decide)
        have nUp := nUp.fr fr0q (by decide) (by decide)
        have hq := hq.fr fr0q (by decide)
        have fr := fr.tr fr0q (by decide)
        refine v_aload_n dX11_times_51 rfl ?_
        refine v_aload_n dX11_times_52 rfl ?_
        refine v_get fX11_134 dX11_times_53 h_47 (by decide) rfl ?_
        refine v_cV (av := [.ref 59]) (st := []) zyX11_takeSum lX11_228 h_47 rfl (p_takeSum (d := 6) h_47 hS nA nB (by decide) (by decide)) dX11_times_56 rfl rfl (Nat.le_of_ble_eq_true rfl) (by omega) (Nat.le_of_ble_eq_true rfl) (Nat.le_of_ble_eq_true rfl) (Or.inl (fun _ _ _ q => ZN q)) (fun r9 G4 n9 q9 => ?_)
        obtain ⟨rfl, q9n, h_47, hA, hB, fr5⟩ := q9
        have q9n := q9n.symm
        subst q9n
        have h_48 := (fr5 48 (by decide)).trans h_48
        have h_49 := (fr5 49 (by decide)).trans h_49
        have h_58 := (fr5 58 (by decide)).trans h_58
        have h_66 := (fr5 66 (by decide)).trans h_66
        have h_67 := (fr5 67 (by decide)).trans h_67
        have h_68 := (fr5 68 (by decide)).trans h_68
        have h_73 := (fr5 73 (by decide)).trans h_73
        have nL := nL.fr fr5 (by decide) (by decide)
        have nR := nR.fr fr5 (by decide) (by decide)
        have nP := nP.fr fr5 (by decide) (by decide)
        have nS := nS.fr fr5 (by decide) (by decide)
        have nN := nN.fr fr5 (by decide) (by decide)
        have nD := nD.fr fr5 (by decide) (by decide)
        have nLo := nLo.fr fr5 (by decide) (by decide)
        have nUp := nUp.fr fr5 (by decide) (by decide)
        have hS := hS.fr fr5 (by decide) (by decide) (by decide)
        have hq := hq.fr fr5 (by decide)
        have fr := fr.tr fr5 (by decide)
        have hSg := sgI_r (0 + 1 * (pvI (pt a1) (wd a1) * pvI (pt a2) (wd a2)))
        refine v_aload_n dX11_times_59 rfl ?_
        refine v_iload_n dX11_times_60 rfl ?_
        refine v_cV (av := [.int (iI (a3:Nat))]) (st := []) zyX11_become lX11_185 h_47 rfl (p_become (d := 6) (rt := 1) h_47 h_48 h_49 hA hB nL nR hSg (fun z => sgI_ne z) (by omega) (by decide) (by decide) (by decide) (by decide) h3 ⟨w3.1, w3.2.1⟩ (by decide)) dX11_times_61 rfl rfl (Nat.le_of_ble_eq_true rfl) (by omega) (Nat.le_of_ble_eq_true rfl) (Nat.le_of_ble_eq_true rfl) (Or.inl (fun _ _ _ q => ZN q)) (fun r9 G5 n9 q9 => ?_)
        obtain ⟨rfl, q9n, ⟨v7, v8, v9, h_47⟩, h_49, nL, nR, fr4⟩ := q9
        have q9n := q9n.symm
        subst q9n
        have nA := hA.ns
        have nB := hB.ns
        have h_48 := (fr4 48 (by decide)).trans h_48
        have h_58 := (fr4 58 (by decide)).trans h_58
        have h_66 := (fr4 66 (by decide)).trans h_66
        have h_67 := (fr4 67 (by decide)).trans h_67
        have h_68 := (fr4 68 (by decide)).trans h_68
        have h_73 := (fr4 73 (by decide)).trans h_73
        have nA := nA.fr fr4 (by decide) (by decide)
        have nB := nB.fr fr4 (by decide) (by decide)
        have nP := nP.fr fr4 (by decide) (by decide)
        have nS := nS.fr fr4 (by decide) (by decide)
        have nN := nN.fr fr4 (by decide) (by decide)
        have nD := nD.fr fr4 (by decide) (by decide)
        have nLo := nLo.fr fr4 (by decide) (by decide)
        have nUp := nUp.fr fr4 (by decide) (by decide)
        have hS := hS.fr fr4 (by decide) (by decide) (by decide)
        have hq := hq.fr fr4 (by decide)
        have fr := fr.tr fr4 (by decide)
        exact v_vret dX11_times_64 trivial (Nat.le_of_ble_eq_true rfl) (Nat.le_of_ble_eq_true rfl) ⟨rfl, rfl, by unfold mtm; rw [if_neg hn]; exact ⟨_, _, _, _, _, _, _, _, _, _, _, _, h_47, h_48, h_49, ⟨nA, nB, nL, nR, nP, nS, nN, nD, nLo, nUp⟩, h_58, ⟨_, _, hS⟩, hq, h_66, ⟨_, h_67, hbb, htx⟩, ⟨_, h_68⟩, ⟨_, h_73⟩⟩, fr⟩
      · exact nar (Or.inr ((of_decide_eq_true x2)))
  · exact absurd c1 (by decide)
noncomputable def mfuS (wd pt : Nat → Nat) (a1 a2 a3 : Nat) : Int := 0 + 1 * (pvI (pt a1) (wd a1) * pvI (pt a2) (wd a2)) + 1 * (pvI (pt a3) (wd a3) * ((2 ^ 120 : Nat) : Int))
noncomputable def mfu (wd pt : Nat → Nat) (a1 a2 a3 : Nat) : Nat := if pt a1 = 2 ^ (wd a1 - 1) ∨ pt a2 = 2 ^ (wd a2 - 1) ∨ pt a3 = 2 ^ (wd a3 - 1) then 2 ^ (wd a3 - 1) else rdR (sgI (mfuS wd pt a1 a2 a3)) (CP (mfuS wd pt a1 a2 a3).natAbs 1 (-240) 1) (wd a3)
set_option maxHeartbeats 8000000 in
set_option maxRecDepth 100000 in
theorem p_Mfused {d n tc a1 a2 a3 : Nat} {wd pt tf : Nat → Nat} {Q : Nat → Int} {qn : Nat → Bool} {L : List Nat} {th : Int} {h : zH} (hM : MD h wd pt Q qn tf tc L th) (hPL : PL wd pt) (h1 : a1 < 32) (h2 : a2 < 32) (h3 : a3 < 32) (hd : 7 ≤ d) :
    zM yX11_fused cX11_fused 4 none d 0 0 [.ref 47, .int (iI (a1:Nat)), .int (iI (a2:Nat)), .int (iI (a3:Nat))] h n (fun r9 h' n' => r9 = none ∧ n' = n ∧ MD h' wd (zup pt a3 (mfu wd pt a1 a2 a3)) Q qn tf tc L 0 ∧ zFr MOL h h') := by
  obtain ⟨vs, vm, ve, sg, e, rt, at9, sz, dg, pw, tn, fm, h_47, h_48, h_49, ⟨nA, nB, nL, nR, nP, nS, nN, nD, nLo, nUp⟩, h_58, ⟨Q0, n0, hS⟩, hq, h_66, ⟨tx, h_67, hbb, htx⟩, ⟨fg, h_68⟩, ⟨fw, h_73⟩⟩ := id hM
  have w1 := hPL a1 h1
  have w2 := hPL a2 h2
  have w3 := hPL a3 h3
  refine zM_of zyX11_fused rfl (Nat.le_of_ble_eq_true rfl) (fun X hX => ?_)
  have fr : zFr MOL h h := zFr.rf
  refine v_aload_n dX11_fused_0 rfl ?_
  refine v_iload_n dX11_fused_1 rfl ?_
  refine v_iload_n dX11_fused_2 rfl ?_
  refine v_iload_n dX11_fused_3 rfl ?_
  refine v_cV (av := [.int (iI (a1:Nat)), .int (iI (a2:Nat)), .int (iI (a3:Nat))]) (st := []) zyX11_goesThree lX11_224 h_47 rfl (p_goesThreeT (d := 6) h_47 h1 h2 h3 (by decide)) dX11_fused_4 rfl rfl (Nat.le_of_ble_eq_true rfl) (by omega) (Nat.le_of_ble_eq_true rfl) (Nat.le_of_ble_eq_true rfl) (Or.inl (fun _ _ _ q => ZN q)) (fun r9 G1 n9 q9 => ?_)
  obtain ⟨rfl, q9n, h_47, fr9⟩ := q9
  have q9n := q9n.symm
  subst q9n
  have h_48 := (fr9 48 (by decide)).trans h_48
  have h_49 := (fr9 49 (by decide)).trans h_49
  have h_58 := (fr9 58 (by decide)).trans h_58
  have h_66 := (fr9 66 (by decide)).trans h_66
  have h_67 := (fr9 67 (by decide)).trans h_67
  have h_68 := (fr9 68 (by decide)).trans h_68
  have h_73 := (fr9 73 (by decide)).trans h_73
  have nA := nA.fr fr9 (by decide) (by decide)
  have nB := nB.fr fr9 (by decide) (by decide)
  have nL := nL.fr fr9 (by decide) (by decide)
  have nR := nR.fr fr9 (by decide) (by decide)
  have nP := nP.fr fr9 (by decide) (by decide)
  have nS := nS.fr fr9 (by decide) (by decide)
  have nN := nN.fr fr9 (by decide) (by decide)
  have nD := nD.fr fr9 (by decide) (by decide)
  have nLo := nLo.fr fr9 (by decide) (by decide)
  have nUp := nUp.fr fr9 (by decide) (by decide)
  have hS := hS.fr fr9 (by decide) (by decide) (by decide)
  have hq := hq.fr fr9 (by decide)
  have fr := fr.tr fr9 (by decide)
  refine w_ifb_ne 11 dX11_fused_7 (by decide) (fun c1 => ?_) (fun c1 => ?_)
  · have nar : (pt a1 = 2 ^ (wd a1 - 1) ∨ pt a2 = 2 ^ (wd a2 - 1) ∨ pt a3 = 2 ^ (wd a3 - 1)) → (zV X (fun r9 h' n' => r9 = none ∧ n' = n ∧ MD h' wd (zup pt a3 (mfu wd pt a1 a2 a3)) Q qn tf tc L 0 ∧ zFr MOL h h') cX11_fused 4 RX11 none d 0 0 35 [(0, .ref 47), (1, .int (iI (a1:Nat))), (2, .int (iI (a2:Nat))), (3, .int (iI (a3:Nat)))] [] G1 n 0 0) := by
      intro hn
      refine v_aload_n dX11_fused_35 rfl ?_
      refine v_iload_n dX11_fused_36 rfl ?_
      refine v_cV (av := [.int (iI (a3:Nat))]) (st := []) zyX11_becomeNar lX11_182 h_47 rfl (p_becomeNar (d := 6) h_47 h_48 h_49 h3 ⟨w3.1, w3.2.1⟩) dX11_fused_37 rfl rfl (Nat.le_of_ble_eq_true rfl) (by omega) (Nat.le_of_ble_eq_true rfl) (Nat.le_of_ble_eq_true rfl) (Or.inl (fun _ _ _ q => ZN q)) (fun r9 G2 n9 q9 => ?_)
      obtain ⟨rfl, q9n, h_49, fr8⟩ := q9
      have q9n := q9n.symm
      subst q9n
      have h_47 := (fr8 47 (by decide)).trans h_47
      have h_48 := (fr8 48 (by decide)).trans h_48
      have h_58 := (fr8 58 (by decide)).trans h_58
      have h_66 := (fr8 66 (by decide)).trans h_66
      have h_67 := (fr8 67 (by decide)).trans h_67
      have h_68 := (fr8 68 (by decide)).trans h_68
      have h_73 := (fr8 73 (by decide)).trans h_73
      have nA := nA.fr fr8 (by decide) (by decide)
      have nB := nB.fr fr8 (by decide) (by decide)
      have nL := nL.fr fr8 (by decide) (by decide)
      have nR := nR.fr fr8 (by decide) (by decide)
      have nP := nP.fr fr8 (by decide) (by decide)
      have nS := nS.fr fr8 (by decide) (by decide)
      have nN := nN.fr fr8 (by decide) (by decide)
      have nD := nD.fr fr8 (by decide) (by decide)
      have nLo := nLo.fr fr8 (by decide) (by decide)
      have nUp := nUp.fr fr8 (by decide) (by decide)
      have hS := hS.fr fr8 (by decide) (by decide) (by decide)
      have hq := hq.fr fr8 (by decide)
      have fr := fr.tr fr8 (by decide)
      exact v_vret dX11_fused_40 trivial (Nat.le_of_ble_eq_true rfl) (Nat.le_of_ble_eq_true rfl) ⟨rfl, rfl, by unfold mfu; rw [if_pos hn]; exact ⟨_, _, _, _, _, _, _, _, _, _, _, _, h_47, h_48, h_49, ⟨nA, nB, nL, nR, nP, nS, nN, nD, nLo, nUp⟩, h_58, ⟨_, _, hS⟩, hq, h_66, ⟨_, h_67, hbb, htx⟩, ⟨_, h_68⟩, ⟨_, h_73⟩⟩, fr⟩
    refine v_aload_n dX11_fused_11 rfl ?_
    refine v_iload_n dX11_fused_12 rfl ?_
    refine v_cV (av := [.int (iI (a1:Nat))]) (st := []) zyX11_isNar lX11_176 h_47 rfl (p_misNar (d := 6) h_47 h_48 h_49 hPL h1) dX11_fused_13 rfl rfl (Nat.le_of_ble_eq_true rfl) (by omega) (Nat.le_of_ble_eq_true rfl) (Nat.le_of_ble_eq_true rfl) (Or.inl (fun _ _ _ q => ZN q)) (fun r9 K1 n9 q9 => ?_)
    obtain ⟨rfl, q9n, q9h⟩ := q9
    have q9n := q9n.symm
    subst q9n
    have q9h := q9h.symm
    subst q9h
    refine w_ifb_ne 35 dX11_fused_16 (by decide) (fun x1 => ?_) (fun x1 => ?_)
    · exact nar (Or.inl (of_decide_eq_true x1))
    · have x1 := of_decide_eq_false x1
      refine v_aload_n dX11_fused_19 rfl ?_
      refine v_iload_n dX11_fused_20 rfl ?_
      refine v_cV (av := [.int (iI (a2:Nat))]) (st := []) zyX11_isNar lX11_176 h_47 rfl (p_misNar (d := 6) h_47 h_48 h_49 hPL h2) dX11_fused_21 rfl rfl (Nat.le_of_ble_eq_true rfl) (by omega) (Nat.le_of_ble_eq_true rfl) (Nat.le_of_ble_eq_true rfl) (Or.inl (fun _ _ _ q => ZN q)) (fun r9 K2 n9 q9 => ?_)
      obtain ⟨rfl, q9n, q9h⟩ := q9
      have q9n := q9n.symm
      subst q9n
      have q9h := q9h.symm
      subst q9h
      refine w_ifb_ne 35 dX11_fused_24 (by decide) (fun x2 => ?_) (fun x2 => ?_)
      · exact nar (Or.inr (Or.inl (of_decide_eq_true x2)))
      · have x2 := of_decide_eq_false x2
        refine v_aload_n dX11_fused_27 rfl ?_
        refine v_iload_n dX11_fused_28 rfl ?_
        refine v_cV (av := [.int (iI (a3:Nat))]) (st := []) zyX11_isNar lX11_176 h_47 rfl (p_misNar (d := 6) h_47 h_48 h_49 hPL h3) dX11_fused_29 rfl rfl (Nat.le_of_ble_eq_true rfl) (by omega) (Nat.le_of_ble_eq_true rfl) (Nat.le_of_ble_eq_true rfl) (Or.inl (fun _ _ _ q => ZN q)) (fun r9 K3 n9 q9 => ?_)
        obtain ⟨rfl, q9n, q9h⟩ := q9
        have q9n := q9n.symm
        subst q9n
        have q9h := q9h.symm
        subst q9h
        refine w_ifb_eq 41 dX11_fused_32 (by decide) (fun x3 => ?_) (fun x3 => ?_)
        · have x3 := of_decide_eq_false x3
          have hn : ¬ (pt a1 = 2 ^ (wd a1 - 1) ∨ pt a2 = 2 ^ (wd a2 - 1) ∨ pt a3 = 2 ^ (wd a3 - 1)) := (fun z => z.elim x1 (fun z => z.elim x2 x3))
          have b1 := pv_b ⟨w1.1, w1.2.1⟩ w1.2.2 x1
          have b2 := pv_b ⟨w2.1, w2.2.1⟩ w2.2.2 x2
          have b3 := pv_b ⟨w3.1, w3.2.1⟩ w3.2.2 x3
          have e120 : nb ((2 ^ 120 : Nat) : Int).natAbs ≤ 130 := nb_le (by decide)
          have c0 := nb_mulZ (x := pvI (pt a1) (wd a1)) (y := pvI (pt a2) (wd a2))
          have d0 := nb_mulZ (x := 1) (y := pvI (pt a1) (wd a1) * pvI (pt a2) (wd a2))
          rw [nb_one (Or.inl rfl)] at d0
          have s0 := nb_addZ (x := 0) (y := 1 * (pvI (pt a1) (wd a1) * pvI (pt a2) (wd a2))) (k := 700) (Nat.zero_le _) (by omega)
          have c1 := nb_mulZ (x := pvI (pt a3) (wd a3)) (y := ((2 ^ 120 : Nat) : Int))
          have d1 := nb_mulZ (x := 1) (y := pvI (pt a3) (wd a3) * ((2 ^ 120 : Nat) : Int))
          rw [nb_one (Or.inl rfl)] at d1
          have s1 := nb_addZ (x := 0 + 1 * (pvI (pt a1) (wd a1) * pvI (pt a2) (wd a2))) (y := 1 * (pvI (pt a3) (wd a3) * ((2 ^ 120 : Nat) : Int))) (k := 701) s0 (by omega)
          refine v_aload_n dX11_fused_41 rfl ?_
          refine v_get fX11_134 dX11_fused_42 h_47 (by decide) rfl ?_
          obtain ⟨h_59, -⟩ := id hS
          refine v_cV (av := []) (st := []) zyX10_clear lX11_217 h_59 rfl (p_sclear (d := 6) hS) dX11_fused_45 rfl rfl (Nat.le_of_ble_eq_true rfl) (by omega) (Nat.le_of_ble_eq_true rfl) (Nat.le_of_ble_eq_true rfl) (Or.inl (fun _ _ _ q => ZN q)) (fun r9 G2 n9 q9 => ?_)
          obtain ⟨rfl, q9n, hS, fr8⟩ := q9
          have q9n := q9n.symm
          subst q9n
          have h_47 := (fr8 47 (by decide)).trans h_47
          have h_48 := (fr8 48 (by decide)).trans h_48
          have h_49 := (fr8 49 (by decide)).trans h_49
          have h_58 := (fr8 58 (by decide)).trans h_58
          have h_66 := (fr8 66 (by decide)).trans h_66
          have h_67 := (fr8 67 (by decide)).trans h_67
          have h_68 := (fr8 68 (by decide)).trans h_68
          have h_73 := (fr8 73 (by decide)).trans h_73
          have nA := nA.fr fr8 (by decide) (by decide)
          have nB := nB.fr fr8 (by decide) (by decide)
          have nL := nL.fr fr8 (by decide) (by decide)
          have nR := nR.fr fr8 (by decide) (by decide)
          have nP := nP.fr fr8 (by decide) (by decide)
          have nS := nS.fr fr8 (by decide) (by decide)
          have nN := nN.fr fr8 (by decide) (by decide)
          have nD := nD.fr fr8 (by decide) (by decide)
          have nLo := nLo.fr fr8 (by decide) (by decide)
          have nUp := nUp.fr fr8 (by decide) (by decide)
          have hq := hq.fr fr8 (by decide)
          have fr := fr.tr fr8 (by decide)
          refine v_aload_n dX11_fused_48 rfl ?_
          refine v_aload_n dX11_fused_49 rfl ?_
          refine v_get fX11_134 dX11_fused_50 h_47 (by decide) rfl ?_
          refine v_iload_n dX11_fused_53 rfl ?_
          refine v_iload_n dX11_fused_54 rfl ?_
          refine v_iconst (iI 1) dX11_fused_55 rfl ?_
          refine v_cV (av := [.ref 59, .int (iI (a1:Nat)), .int (iI (a2:Nat)), .int (iI 1)]) (st := []) zyX11_gatherProduct lX11_236 h_47 rfl (p_gatherProduct (d := 6) h_47 h_48 h_49 hPL h1 h2 x1 x2 hS nP nS (by unfold gne; decide) (Or.inl rfl) (by decide) (by decide)) dX11_fused_56 rfl rfl (Nat.le_of_ble_eq_true rfl) (by omega) (Nat.le_of_ble_eq_true rfl) (Nat.le_of_ble_eq_true rfl) (Or.inl (fun _ _ _ q => ZN q)) (fun r9 G3 n9 q9 => ?_)
          obtain ⟨rfl, q9n, ⟨v0a, v0b, v0c, h_47⟩, hS, nP, nS, fr0q⟩ := q9
          have q9n := q9n.symm
          subst q9n
          have h_48 := (fr0q 48 (by decide)).trans h_48
          have h_49 := (fr0q 49 (by decide)).trans h_49
          have h_58 := (fr0q 58 (by decide)).trans h_58
          have h_66 := (fr0q 66 (by decide)).trans h_66
          have h_67 := (fr0q 67 (by decide)).trans h_67
          have h_68 := (fr0q 68 (by decide)).trans h_68
          have h_73 := (fr0q 73 (by decide)).trans h_73
          have nA := nA.fr fr0q (by decide) (by decide)
          have nB := nB.fr fr0q (by decide) (by decide)
          have nL := nL.fr fr0q (by decide) (by decide)
          have nR := nR.fr fr0q (by decide) (by decide)
          have nN := nN.fr fr0q (by decide) (by decide)
          have nD := nD.fr fr0q (by decide) (by decide)
          have nLo := nLo.fr fr0q (by decide) (by decide)
          have nUp := nUp.fr fr0q (by decide) (by decide)
          have hq := hq.fr fr0q (by decide)
          have fr := fr.tr fr0q (by decide)
          refine v_aload_n dX11_fused_59 rfl ?_
          refine v_aload_n dX11_fused_60 rfl ?_
          refine v_get fX11_134 dX11_fused_61 h_47 (by decide) rfl ?_
          refine v_iload_n dX11_fused_64 rfl ?_
          refine v_iconst (iI 1) dX11_fused_65 rfl ?_
          refine v_cV (av := [.ref 59, .int (iI (a3:Nat)), .int (iI 1)]) (st := []) zyX11_gatherOne lX11_220 h_47 rfl (p_gatherOne (d := 6) h_47 h_48 h_49 hPL h3 x3 hS nP nS (by unfold gne; decide) (Or.inl rfl) (by omega) (by decide)) dX11_fused_66 rfl rfl (Nat.le_of_ble_eq_true rfl) (by omega) (Nat.le_of_ble_eq_true rfl) (Nat.le_of_ble_eq_true rfl) (Or.inl (fun _ _ _ q => ZN q)) (fun r9 G4 n9 q9 => ?_)
          obtain ⟨rfl, q9n, ⟨v1a, v1b, v1c, h_47⟩, hS, nP, nS, fr1q⟩ := q9
          have q9n := q9n.symm
          subst q9n
          have h_48 := (fr1q 48 (by decide)).trans h_48
          have h_49 := (fr1q 49 (by decide)).trans h_49
          have h_58 := (fr1q 58 (by decide)).trans h_58
          have h_66 := (fr1q 66 (by decide)).trans h_66
          have h_67 := (fr1q 67 (by decide)).trans h_67
          have h_68 := (fr1q 68 (by decide)).trans h_68
          have h_73 := (fr1q 73 (by decide)).trans h_73
          have nA := nA.fr fr1q (by decide) (by decide)
          have nB := nB.fr fr1q (by decide) (by decide)
          have nL := nL.fr fr1q (by decide) (by decide)
          have nR := nR.fr fr1q (by decide) (by decide)
          have nN := nN.fr fr1q (by decide) (by decide)
          have nD := nD.fr fr1q (by decide) (by decide)
          have nLo := nLo.fr fr1q (by decide) (by decide)
          have nUp := nUp.fr fr1q (by decide) (by decide)
          have hq := hq.fr fr1q (by decide)
          have fr := fr.tr fr1q (by decide)
          refine v_aload_n dX11_fused_69 rfl ?_
          refine v_aload_n dX11_fused_70 rfl ?_
          refine v_get fX11_134 dX11_fused_71 h_47 (by decide) rfl ?_
          refine v_cV (av := [.ref 59]) (st := []) zyX11_takeSum lX11_228 h_47 rfl (p_takeSum (d := 6) h_47 hS nA nB (by decide) (by decide)) dX11_fused_74 rfl rfl (Nat.le_of_ble_eq_true rfl) (by omega) (Nat.le_of_ble_eq_true rfl) (Nat.le_of_ble_eq_true rfl) (Or.inl (fun _ _ _ q => ZN q)) (fun r9 G5 n9 q9 => ?_)
          obtain ⟨rfl, q9n, h_47, hA, hB, fr5⟩ := q9
          have q9n := q9n.symm
          subst q9n
          have h_48 := (fr5 48 (by decide)).trans h_48
          have h_49 := (fr5 49 (by decide)).trans h_49
          have h_58 := (fr5 58 (by decide)).trans h_58
          have h_66 := (fr5 66 (by decide)).trans h_66
          have h_67 := (fr5 67 (by decide)).trans h_67
          have h_68 := (fr5 68 (by decide)).trans h_68
          have h_73 := (fr5 73 (by decide)).trans h_73
          have nL := nL.fr fr5 (by decide) (by decide)
          have nR := nR.fr fr5 (by decide) (by decide)
          have nP := nP.fr fr5 (by decide) (by decide)
          have nS := nS.fr fr5 (by decide) (by decide)
          have nN := nN.fr fr5 (by decide) (by decide)
          have nD := nD.fr fr5 (by decide) (by decide)
          have nLo := nLo.fr fr5 (by decide) (by decide)
          have nUp := nUp.fr fr5 (by decide) (by decide)
          have hS := hS.fr fr5 (by decide) (by decide) (by decide)
          have hq := hq.fr fr5 (by decide)
          have fr := fr.tr fr5 (by decide)
          have hSg := sgI_r (0 + 1 * (pvI (pt a1) (wd a1) * pvI (pt a2) (wd a2)) + 1 * (pvI (pt a3) (wd a3) * ((2 ^ 120 : Nat) : Int)))
          refine v_aload_n dX11_fused_77 rfl ?_
          refine v_iload_n dX11_fused_78 rfl ?_
          refine v_cV (av := [.int (iI (a3:Nat))]) (st := []) zyX11_become lX11_185 h_47 rfl (p_become (d := 6) (rt := 1) h_47 h_48 h_49 hA hB nL nR hSg (fun z => sgI_ne z) (by omega) (by decide) (by decide) (by decide) (by decide) h3 ⟨w3.1, w3.2.1⟩ (by decide)) dX11_fused_79 rfl rfl (Nat.le_of_ble_eq_true rfl) (by omega) (Nat.le_of_ble_eq_true rfl) (Nat.le_of_ble_eq_true rfl) (Or.inl (fun _ _ _ q => ZN q)) (fun r9 G6 n9 q9 => ?_)
          obtain ⟨rfl, q9n, ⟨v7, v8, v9, h_47⟩, h_49, nL, nR, fr4⟩ := q9
          have q9n := q9n.symm
          subst q9n
          have nA := hA.ns
          have nB := hB.ns
          have h_48 := (fr4 48 (by decide)).trans h_48
          have h_58 := (fr4 58 (by decide)).trans h_58
          have h_66 := (fr4 66 (by decide)).trans h_66
          have h_67 := (fr4 67 (by decide)).trans h_67
          have h_68 := (fr4 68 (by decide)).trans h_68
          have h_73 := (fr4 73 (by decide)).trans h_73
          have nA := nA.fr fr4 (by decide) (by decide)
          have nB := nB.fr fr4 (by decide) (by decide)
          have nP := nP.fr fr4 (by decide) (by decide)
          have nS := nS.fr fr4 (by decide) (by decide)
          have nN := nN.fr fr4 (by decide) (by decide)
          have nD := nD.fr fr4 (by decide) (by decide)
          have nLo := nLo.fr fr4 (by decide) (by decide)
          have nUp := nUp.fr fr4 (by decide) (by decide)
          have hS := hS.fr fr4 (by decide) (by decide) (by decide)
          have hq := hq.fr fr4 (by decide)
          have fr := fr.tr fr4 (by decide)
          exact v_vret dX11_fused_82 trivial (Nat.le_of_ble_eq_true rfl) (Nat.le_of_ble_eq_true rfl) ⟨rfl, rfl, by unfold mfu; rw [if_neg hn]; exact ⟨_, _, _, _, _, _, _, _, _, _, _, _, h_47, h_48, h_49, ⟨nA, nB, nL, nR, nP, nS, nN, nD, nLo, nUp⟩, h_58, ⟨_, _, hS⟩, hq, h_66, ⟨_, h_67, hbb, htx⟩, ⟨_, h_68⟩, ⟨_, h_73⟩⟩, fr⟩
        · exact nar (Or.inr (Or.inr ((of_decide_eq_true x3))))
  · exact absurd c1 (by decide)
noncomputable def mfaS (wd pt : Nat → Nat) (a1 a2 a3 : Nat) : Int := 0 + 1 * (pvI (pt a1) (wd a1) * pvI (pt a1) (wd a1)) + 1 * (pvI (pt a2) (wd a2) * pvI (pt a2) (wd a2))
noncomputable def mfa (wd pt : Nat → Nat) (a1 a2 a3 : Nat) : Nat := if pt a1 = 2 ^ (wd a1 - 1) ∨ pt a2 = 2 ^ (wd a2 - 1) then 2 ^ (wd a3 - 1) else rdR (sgI (mfaS wd pt a1 a2 a3)) (CP (mfaS wd pt a1 a2 a3).natAbs 1 (-240) 2) (wd a3)
set_option maxHeartbeats 8000000 in
set_option maxRecDepth 100000 in
theorem p_Mfar {d n tc a1 a2 a3 : Nat} {wd pt tf : Nat → Nat} {Q : Nat → Int} {qn : Nat → Bool} {L : List Nat} {th : Int} {h : zH} (hM : MD h wd pt Q qn tf tc L th) (hPL : PL wd pt) (h1 : a1 < 32) (h2 : a2 < 32) (h3 : a3 < 32) (hd : 7 ≤ d) :
    zM yX11_far cX11_far 4 none d 0 0 [.ref 47, .int (iI (a1:Nat)), .int (iI (a2:Nat)), .int (iI (a3:Nat))] h n (fun r9 h' n' => r9 = none ∧ n' = n ∧ MD h' wd (zup pt a3 (mfa wd pt a1 a2 a3)) Q qn tf tc L 0 ∧ zFr MOL h h') := by
  obtain ⟨vs, vm, ve, sg, e, rt, at9, sz, dg, pw, tn, fm, h_47, h_48, h_49, ⟨nA, nB, nL, nR, nP, nS, nN, nD, nLo, nUp⟩, h_58, ⟨Q0, n0, hS⟩, hq, h_66, ⟨tx, h_67, hbb, htx⟩, ⟨fg, h_68⟩, ⟨fw, h_73⟩⟩ := id hM
  have w1 := hPL a1 h1
  have w2 := hPL a2 h2
  have w3 := hPL a3 h3
  refine zM_of zyX11_far rfl (Nat.le_of_ble_eq_true rfl) (fun X hX => ?_)
  have fr : zFr MOL h h := zFr.rf
  refine v_aload_n dX11_far_0 rfl ?_
  refine v_iload_n dX11_far_1 rfl ?_
  refine v_iload_n dX11_far_2 rfl ?_
  refine v_iload_n dX11_far_3 rfl ?_
  refine v_cV (av := [.int (iI (a1:Nat)), .int (iI (a2:Nat)), .int (iI (a3:Nat))]) (st := []) zyX11_goesThree lX11_224 h_47 rfl (p_goesThreeT (d := 6) h_47 h1 h2 h3 (by decide)) dX11_far_4 rfl rfl (Nat.le_of_ble_eq_true rfl) (by omega) (Nat.le_of_ble_eq_true rfl) (Nat.le_of_ble_eq_true rfl) (Or.inl (fun _ _ _ q => ZN q)) (fun r9 G1 n9 q9 => ?_)
  obtain ⟨rfl, q9n, h_47, fr9⟩ := q9
  have q9n := q9n.symm
  subst q9n
  have h_48 := (fr9 48 (by decide)).trans h_48
  have h_49 := (fr9 49 (by decide)).trans h_49
  have h_58 := (fr9 58 (by decide)).trans h_58
  have h_66 := (fr9 66 (by decide)).trans h_66
  have h_67 := (fr9 67 (by decide)).trans h_67
  have h_68 := (fr9 68 (by decide)).trans h_68
  have h_73 := (fr9 73 (by decide)).trans h_73
  have nA := nA.fr fr9 (by decide) (by decide)
  have nB := nB.fr fr9 (by decide) (by decide)
  have nL := nL.fr fr9 (by decide) (by decide)
  have nR := nR.fr fr9 (by decide) (by decide)
  have nP := nP.fr fr9 (by decide) (by decide)
  have nS := nS.fr fr9 (by decide) (by decide)
  have nN := nN.fr fr9 (by decide) (by decide)
  have nD := nD.fr fr9 (by decide) (by decide)
  have nLo := nLo.fr fr9 (by decide) (by decide)
  have nUp := nUp.fr fr9 (by decide) (by decide)
  have hS := hS.fr fr9 (by decide) (by decide) (by decide)
  have hq := hq.fr fr9 (by decide)
  have fr := fr.tr fr9 (by decide)
  refine w_ifb_ne 11 dX11_far_7 (by decide) (fun c1 => ?_) (fun c1 => ?_)
  · have nar : (pt a1 = 2 ^ (wd a1 - 1) ∨ pt a2 = 2 ^ (wd a2 - 1)) → (zV X (fun r9 h' n' => r9 = none ∧ n' = n ∧ MD h' wd (zup pt a3 (mfa wd pt a1 a2 a3)) Q qn tf tc L 0 ∧ zFr MOL h h') cX11_far 4 RX11 none d 0 0 27 [(0, .ref 47), (1, .int (iI (a1:Nat))), (2, .int (iI (a2:Nat))), (3, .int (iI (a3:Nat)))] [] G1 n 0 0) := by
      intro hn
      refine v_aload_n dX11_far_27 rfl ?_
      refine v_iload_n dX11_far_28 rfl ?_
      refine v_cV (av := [.int (iI (a3:Nat))]) (st := []) zyX11_becomeNar lX11_182 h_47 rfl (p_becomeNar (d := 6) h_47 h_48 h_49 h3 ⟨w3.1, w3.2.1⟩) dX11_far_29 rfl rfl (Nat.le_of_ble_eq_true rfl) (by omega) (Nat.le_of_ble_eq_true rfl) (Nat.le_of_ble_eq_true rfl) (Or.inl (fun _ _ _ q => ZN q)) (fun r9 G2 n9 q9 => ?_)
      obtain ⟨rfl, q9n, h_49, fr8⟩ := q9
      have q9n := q9n.symm
      subst q9n
      have h_47 := (fr8 47 (by decide)).trans h_47
      have h_48 := (fr8 48 (by decide)).trans h_48
      have h_58 := (fr8 58 (by decide)).trans h_58
      have h_66 := (fr8 66 (by decide)).trans h_66
      have h_67 := (fr8 67 (by decide)).trans h_67
      have h_68 := (fr8 68 (by decide)).trans h_68
      have h_73 := (fr8 73 (by decide)).trans h_73
      have nA := nA.fr fr8 (by decide) (by decide)
      have nB := nB.fr fr8 (by decide) (by decide)
      have nL := nL.fr fr8 (by decide) (by decide)
      have nR := nR.fr fr8 (by decide) (by decide)
      have nP := nP.fr fr8 (by decide) (by decide)
      have nS := nS.fr fr8 (by decide) (by decide)
      have nN := nN.fr fr8 (by decide) (by decide)
      have nD := nD.fr fr8 (by decide) (by decide)
      have nLo := nLo.fr fr8 (by decide) (by decide)
      have nUp := nUp.fr fr8 (by decide) (by decide)
      have hS := hS.fr fr8 (by decide) (by decide) (by decide)
      have hq := hq.fr fr8 (by decide)
      have fr := fr.tr fr8 (by decide)
      exact v_vret dX11_far_32 trivial (Nat.le_of_ble_eq_true rfl) (Nat.le_of_ble_eq_true rfl) ⟨rfl, rfl, by unfold mfa; rw [if_pos hn]; exact ⟨_, _, _, _, _, _, _, _, _, _, _, _, h_47, h_48, h_49, ⟨nA, nB, nL, nR, nP, nS, nN, nD, nLo, nUp⟩, h_58, ⟨_, _, hS⟩, hq, h_66, ⟨_, h_67, hbb, htx⟩, ⟨_, h_68⟩, ⟨_, h_73⟩⟩, fr⟩
    refine v_aload_n dX11_far_11 rfl ?_
    refine v_iload_n dX11_far_12 rfl ?_
    refine v_cV (av := [.int (iI (a1:Nat))]) (st := []) zyX11_isNar lX11_176 h_47 rfl (p_misNar (d := 6) h_47 h_48 h_49 hPL h1) dX11_far_13 rfl rfl (Nat.le_of_ble_eq_true rfl) (by omega) (Nat.le_of_ble_eq_true rfl) (Nat.le_of_ble_eq_true rfl) (Or.inl (fun _ _ _ q => ZN q)) (fun r9 K1 n9 q9 => ?_)
    obtain ⟨rfl, q9n, q9h⟩ := q9
    have q9n := q9n.symm
    subst q9n
    have q9h := q9h.symm
    subst q9h
    refine w_ifb_ne 27 dX11_far_16 (by decide) (fun x1 => ?_) (fun x1 => ?_)
    · exact nar (Or.inl (of_decide_eq_true x1))
    · have x1 := of_decide_eq_false x1
      refine v_aload_n dX11_far_19 rfl ?_
      refine v_iload_n dX11_far_20 rfl ?_
      refine v_cV (av := [.int (iI (a2:Nat))]) (st := []) zyX11_isNar lX11_176 h_47 rfl (p_misNar (d := 6) h_47 h_48 h_49 hPL h2) dX11_far_21 rfl rfl (Nat.le_of_ble_eq_true rfl) (by omega) (Nat.le_of_ble_eq_true rfl) (Nat.le_of_ble_eq_true rfl) (Or.inl (fun _ _ _ q => ZN q)) (fun r9 K2 n9 q9 => ?_)
      obtain ⟨rfl, q9n, q9h⟩ := q9
      have q9n := q9n.symm
      subst q9n
      have q9h := q9h.symm
      subst q9h
      refine w_ifb_eq 33 dX11_far_24 (by decide) (fun x2 => ?_) (fun x2 => ?_)
      · have x2 := of_decide_eq_false x2
        have hn : ¬ (pt a1 = 2 ^ (wd a1 - 1) ∨ pt a2 = 2 ^ (wd a2 - 1)) := (fun z => z.elim x1 x2)
        have b1 := pv_b ⟨w1.1, w1.2.1⟩ w1.2.2 x1
        have b2 := pv_b ⟨w2.1, w2.2.1⟩ w2.2.2 x2
        have e120 : nb ((2 ^ 120 : Nat) : Int).natAbs ≤ 130 := nb_le (by decide)
        have c0 := nb_mulZ (x := pvI (pt a1) (wd a1)) (y := pvI (pt a1) (wd a1))
        have d0 := nb_mulZ (x := 1) (y := pvI (pt a1) (wd a1) * pvI (pt a1) (wd a1))
        rw [nb_one (Or.inl rfl)] at d0
        have s0 := nb_addZ (x := 0) (y := 1 * (pvI (pt a1) (wd a1) * pvI (pt a1) (wd a1))) (k := 700) (Nat.zero_le _) (by omega)
        have c1 := nb_mulZ (x := pvI (pt a2) (wd a2)) (y := pvI (pt a2) (wd a2))
        have d1 := nb_mulZ (x := 1) (y := pvI (pt a2) (wd a2) * pvI (pt a2) (wd a2))
        rw [nb_one (Or.inl rfl)] at d1
        have s1 := nb_addZ (x := 0 + 1 * (pvI (pt a1) (wd a1) * pvI (pt a1) (wd a1))) (y := 1 * (pvI (pt a2) (wd a2) * pvI (pt a2) (wd a2))) (k := 701) s0 (by omega)
        refine v_aload_n dX11_far_33 rfl ?_
        refine v_get fX11_134 dX11_far_34 h_47 (by decide) rfl ?_
        obtain ⟨h_59, -⟩ := id hS
        refine v_cV (av := []) (st := []) zyX10_clear lX11_217 h_59 rfl (p_sclear (d := 6) hS) dX11_far_37 rfl rfl (Nat.le_of_ble_eq_true rfl) (by omega) (Nat.le_of_ble_eq_true rfl) (Nat.le_of_ble_eq_true rfl) (Or.inl (fun _ _ _ q => ZN q)) (fun r9 G2 n9 q9 => ?_)
        obtain ⟨rfl, q9n, hS, fr8⟩ := q9
        have q9n := q9n.symm
        subst q9n
        have h_47 := (fr8 47 (by decide)).trans h_47
        have h_48 := (fr8 48 (by decide)).trans h_48
        have h_49 := (fr8 49 (by decide)).trans h_49
        have h_58 := (fr8 58 (by decide)).trans h_58
        have h_66 := (fr8 66 (by decide)).trans h_66
        have h_67 := (fr8 67 (by decide)).trans h_67
        have h_68 := (fr8 68 (by decide)).trans h_68
        have h_73 := (fr8 73 (by decide)).trans h_73
        have nA := nA.fr fr8 (by decide) (by decide)
        have nB := nB.fr fr8 (by decide) (by decide)
        have nL := nL.fr fr8 (by decide) (by decide)
        have nR := nR.fr fr8 (by decide) (by decide)
        have nP := nP.fr fr8 (by decide) (by decide)
        have nS := nS.fr fr8 (by decide) (by decide)
        have nN := nN.fr fr8 (by decide) (by decide)
        have nD := nD.fr fr8 (by decide) (by decide)
        have nLo := nLo.fr fr8 (by decide) (by decide)
        have nUp := nUp.fr fr8 (by decide) (by decide)
        have hq := hq.fr fr8 (by decide)
        have fr := fr.tr fr8 (by decide)
        refine v_aload_n dX11_far_40 rfl ?_
        refine v_aload_n dX11_far_41 rfl ?_
        refine v_get fX11_134 dX11_far_42 h_47 (by decide) rfl ?_
        refine v_iload_n dX11_far_45 rfl ?_
        refine v_iload_n dX11_far_46 rfl ?_
        refine v_iconst (iI 1) dX11_far_47 rfl ?_
        refine v_cV (av := [.ref 59, .int (iI (a1:Nat)), .int (iI (a1:Nat)), .int (iI 1)]) (st := []) zyX11_gatherProduct lX11_236 h_47 rfl (p_gatherProduct (d := 6) h_47 h_48 h_49 hPL h1 h1 x1 x1 hS nP nS (by unfold gne; decide) (Or.inl rfl) (by decide) (by decide)) dX11_far_48 rfl rfl (Nat.le_of_ble_eq_true rfl) (by omega) (Nat.le_of_ble_eq_true rfl) (Nat.le_of_ble_eq_true rfl) (Or.inl (fun _ _ _ q => ZN q)) (fun r9 G3 n9 q9 => ?_)
        obtain ⟨rfl, q9n, ⟨v0a, v0b, v0c, h_47⟩, hS, nP, nS, fr0q⟩ := q9
        have q9n := q9n.symm
        subst q9n
        have h_48 := (fr0q 48 (by decide)).trans h_48
        have h_49 := (fr0q 49 (by decide)).trans h_49
        have h_58 := (fr0q 58 (by decide)).trans h_58
        have h_66 := (fr0q 66 (by decide)).trans h_66
        have h_67 := (fr0q 67 (by decide)).trans h_67
        have h_68 := (fr0q 68 (by decide)).trans h_68
        have h_73 := (fr0q 73 (by decide)).trans h_73
        have nA := nA.fr fr0q (by decide) (by decide)
        have nB := nB.fr fr0q (by decide) (by decide)
        have nL := nL.fr fr0q (by decide) (by decide)
        have nR := nR.fr fr0q (by decide) (by decide)
        have nN := nN.fr fr0q (by decide) (by decide)
        have nD := nD.fr fr0q (by decide) (by decide)
        have nLo := nLo.fr fr0q (by decide) (by decide)
        have nUp := nUp.fr fr0q (by decide) (by decide)
        have hq := hq.fr fr0q (by decide)
        have fr := fr.tr fr0q (by decide)
        refine v_aload_n dX11_far_51 rfl ?_
        refine v_aload_n dX11_far_52 rfl ?_
        refine v_get fX11_134 dX11_far_53 h_47 (by decide) rfl ?_
        refine v_iload_n dX11_far_56 rfl ?_
        refine v_iload_n dX11_far_57 rfl ?_
        refine v_iconst (iI 1) dX11_far_58 rfl ?_
        refine v_cV (av := [.ref 59, .int (iI (a2:Nat)), .int (iI (a2:Nat)), .int (iI 1)]) (st := []) zyX11_gatherProduct lX11_236 h_47 rfl (p_gatherProduct (d := 6) h_47 h_48 h_49 hPL h2 h2 x2 x2 hS nP nS (by unfold gne; decide) (Or.inl rfl) (by omega) (by decide)) dX11_far_59 rfl rfl (Nat.le_of_ble_eq_true rfl) (by omega) (Nat.le_of_ble_eq_true rfl) (Nat.le_of_ble_eq_true rfl) (Or.inl (fun _ _ _ q => ZN q)) (fun r9 G4 n9 q9 => ?_)
        obtain ⟨rfl, q9n, ⟨v1a, v1b, v1c, h_47⟩, hS, nP, nS, fr1q⟩ := q9
        have q9n := q9n.symm
        subst q9n
        have h_48 := (fr1q 48 (by decide)).trans h_48
        have h_49 := (fr1q 49 (by decide)).trans h_49
        have h_58 := (fr1q 58 (by decide)).trans h_58
        have h_66 := (fr1q 66 (by decide)).trans h_66
        have h_67 := (fr1q 67 (by decide)).trans h_67
        have h_68 := (fr1q 68 (by decide)).trans h_68
        have h_73 := (fr1q 73 (by decide)).trans h_73
        have nA := nA.fr fr1q (by decide) (by decide)
        have nB := nB.fr fr1q (by decide) (by decide)
        have nL := nL.fr fr1q (by decide) (by decide)
        have nR := nR.fr fr1q (by decide) (by decide)
        have nN := nN.fr fr1q (by decide) (by decide)
        have nD := nD.fr fr1q (by decide) (by decide)
        have nLo := nLo.fr fr1q (by decide) (by decide)
        have nUp := nUp.fr fr1q (by decide) (by decide)
        have hq := hq.fr fr1q (by decide)
        have fr := fr.tr fr1q (by decide)
        refine v_aload_n dX11_far_62 rfl ?_
        refine v_aload_n dX11_far_63 rfl ?_
        refine v_get fX11_134 dX11_far_64 h_47 (by decide) rfl ?_
        refine v_cV (av := [.ref 59]) (st := []) zyX11_takeSum lX11_228 h_47 rfl (p_takeSum (d := 6) h_47 hS nA nB (by decide) (by decide)) dX11_far_67 rfl rfl (Nat.le_of_ble_eq_true rfl) (by omega) (Nat.le_of_ble_eq_true rfl) (Nat.le_of_ble_eq_true rfl) (Or.inl (fun _ _ _ q => ZN q)) (fun r9 G5 n9 q9 => ?_)
        obtain ⟨rfl, q9n, h_47, hA, hB, fr5⟩ := q9
        have q9n := q9n.symm
        subst q9n
        have h_48 := (fr5 48 (by decide)).trans h_48
        have h_49 := (fr5 49 (by decide)).trans h_49
        have h_58 := (fr5 58 (by decide)).trans h_58
        have h_66 := (fr5 66 (by decide)).trans h_66
        have h_67 := (fr5 67 (by decide)).trans h_67
        have h_68 := (fr5 68 (by decide)).trans h_68
        have h_73 := (fr5 73 (by decide)).trans h_73
        have nL := nL.fr fr5 (by decide) (by decide)
        have nR := nR.fr fr5 (by decide) (by decide)
        have nP := nP.fr fr5 (by decide) (by decide)
        have nS := nS.fr fr5 (by decide) (by decide)
        have nN := nN.fr fr5 (by decide) (by decide)
        have nD := nD.fr fr5 (by decide) (by decide)
        have nLo := nLo.fr fr5 (by decide) (by decide)
        have nUp := nUp.fr fr5 (by decide) (by decide)
        have hS := hS.fr fr5 (by decide) (by decide) (by decide)
        have hq := hq.fr fr5 (by decide)
        have fr := fr.tr fr5 (by decide)
        have hSg := sgI_r (0 + 1 * (pvI (pt a1) (wd a1) * pvI (pt a1) (wd a1)) + 1 * (pvI (pt a2) (wd a2) * pvI (pt a2) (wd a2)))
        refine v_aload_n dX11_far_70 rfl ?_
        refine v_iconst (iI 2) dX11_far_71 rfl ?_
        refine v_put (fs' := [.int (iI v1a), .long (jL v1b), .int (iI v1c), .ref 48, .ref 49, .int (iI (sgI (0 + 1 * (pvI (pt a1) (wd a1) * pvI (pt a1) (wd a1)) + 1 * (pvI (pt a2) (wd a2) * pvI (pt a2) (wd a2))))), .ref 50, .ref 52, .int (iI (-240)), .int (iI 2), .ref 54, .ref 56, .ref 58, .ref 59, .ref 62, .ref 64, .int (iI 0), .ref 66, .int (iI (tc:Nat)), .ref 67, .int (iI (L.length:Nat)), .int (iI at9), .int (iI sz), .int (iI dg), .int (iI pw), .ref 68, .ref 69, .ref 71, .int (iI tn), .ref 73, .int (iI fm), .ref 74, .ref 76]) fX11_51 dX11_far_72 h_47 (by decide) (Nat.le_of_ble_eq_true rfl) rfl rfl rfl (fun H1 eH1 => ?_)
        have h_47 : H1 47 = oModel v1a v1b v1c (sgI (0 + 1 * (pvI (pt a1) (wd a1) * pvI (pt a1) (wd a1)) + 1 * (pvI (pt a2) (wd a2) * pvI (pt a2) (wd a2)))) (-240) 2 0 (tc:Nat) (L.length:Nat) at9 sz dg pw tn fm := zf_same eH1
        have h_48 := (zf_ne eH1 (by decide)).trans h_48
        have h_49 := (zf_ne eH1 (by decide)).trans h_49
        have fr := fr.put eH1 (by simp)
        refine v_aload_n dX11_far_75 rfl ?_
        refine v_iload_n dX11_far_76 rfl ?_
        have fz : zFr [47] G5 H1 := zFr.put zFr.rf eH1 (by simp)
        have hA := hA.fr fz (by decide) (by decide)
        have hB := hB.fr fz (by decide) (by decide)
        have nL := nL.fr fz (by decide) (by decide)
        have nR := nR.fr fz (by decide) (by decide)
        have nP := nP.fr fz (by decide) (by decide)
        have nS := nS.fr fz (by decide) (by decide)
        have nN := nN.fr fz (by decide) (by decide)
        have nD := nD.fr fz (by decide) (by decide)
        have nLo := nLo.fr fz (by decide) (by decide)
        have nUp := nUp.fr fz (by decide) (by decide)
        have hS := hS.fr fz (by decide) (by decide) (by decide)
        have hq := hq.fr fz (by decide)
        have h_58 := (fz 58 (by decide)).trans h_58
        have h_66 := (fz 66 (by decide)).trans h_66
        have h_67 := (fz 67 (by decide)).trans h_67
        have h_68 := (fz 68 (by decide)).trans h_68
        have h_73 := (fz 73 (by decide)).trans h_73
        refine v_cV (av := [.int (iI (a3:Nat))]) (st := []) zyX11_become lX11_185 h_47 rfl (p_become (d := 6) (rt := 2) h_47 h_48 h_49 hA hB nL nR hSg (fun z => sgI_ne z) (by omega) (by decide) (by decide) (by decide) (by decide) h3 ⟨w3.1, w3.2.1⟩ (by decide)) dX11_far_77 rfl rfl (Nat.le_of_ble_eq_true rfl) (by omega) (Nat.le_of_ble_eq_true rfl) (Nat.le_of_ble_eq_true rfl) (Or.inl (fun _ _ _ q => ZN q)) (fun r9 G6 n9 q9 => ?_)
        obtain ⟨rfl, q9n, ⟨v7, v8, v9, h_47⟩, h_49, nL, nR, fr4⟩ := q9
        have q9n := q9n.symm
        subst q9n
        have nA := hA.ns
        have nB := hB.ns
        have h_48 := (fr4 48 (by decide)).trans h_48
        have h_58 := (fr4 58 (by decide)).trans h_58
        have h_66 := (fr4 66 (by decide)).trans h_66
        have h_67 := (fr4 67 (by decide)).trans h_67
        have h_68 := (fr4 68 (by decide)).trans h_68
        have h_73 := (fr4 73 (by decide)).trans h_73
        have nA := nA.fr fr4 (by decide) (by decide)
        have nB := nB.fr fr4 (by decide) (by decide)
        have nP := nP.fr fr4 (by decide) (by decide)
        have nS := nS.fr fr4 (by decide) (by decide)
        have nN := nN.fr fr4 (by decide) (by decide)
        have nD := nD.fr fr4 (by decide) (by decide)
        have nLo := nLo.fr fr4 (by decide) (by decide)
        have nUp := nUp.fr fr4 (by decide) (by decide)
        have hS := hS.fr fr4 (by decide) (by decide) (by decide)
        have hq := hq.fr fr4 (by decide)
        have fr := fr.tr fr4 (by decide)
        exact v_vret dX11_far_80 trivial (Nat.le_of_ble_eq_true rfl) (Nat.le_of_ble_eq_true rfl) ⟨rfl, rfl, by unfold mfa; rw [if_neg hn]; exact ⟨_, _, _, _, _, _, _, _, _, _, _, _, h_47, h_48, h_49, ⟨nA, nB, nL, nR, nP, nS, nN, nD, nLo, nUp⟩, h_58, ⟨_, _, hS⟩, hq, h_66, ⟨_, h_67, hbb, htx⟩, ⟨_, h_68⟩, ⟨_, h_73⟩⟩, fr⟩
      · exact nar (Or.inr ((of_decide_eq_true x2)))
  · exact absurd c1 (by decide)
