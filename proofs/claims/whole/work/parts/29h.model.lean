/-! The reference: order, dot; calls that don't go -/
set_option maxHeartbeats 8000000 in
set_option maxRecDepth 100000 in
theorem p_Mgatherx {d n tc : Nat} {wd pt tf : Nat → Nat} {Q : Nat → Int} {qn : Nat → Bool} {L : List Nat} {th k p q : Int} {mi : Bool} {h : zH} (hM : MD h wd pt Q qn tf tc L th) (hr_k : -2147483648 ≤ k ∧ k < 2147483648) (hr_p : -2147483648 ≤ p ∧ p < 2147483648) (hr_q : -2147483648 ≤ q ∧ q < 2147483648) (hx : ((isQ k && (isP p && isP q)) && true) = false) (hd : 2 ≤ d) :
    zM yX11_gather_ cX11_gather_ 5 none d 0 0 [.ref 47, .int (iI k), .int (iI p), .int (iI q), .int (iI (bz mi))] h n (fun r9 h' n' => r9 = none ∧ n' = n ∧ MD h' wd pt Q qn tf tc L (thr (isQ k && (isP p && isP q)) true) ∧ zFr MOL h h') := by
  obtain ⟨vs, vm, ve, sg, e, rt, at9, sz, dg, pw, tn, fm, h_47, h_48, h_49, ⟨nA, nB, nL, nR, nP, nS, nN, nD, nLo, nUp⟩, h_58, ⟨Q0, n0, hS⟩, hq, h_66, ⟨tx, h_67, hbb, htx⟩, ⟨fg, h_68⟩, ⟨fw, h_73⟩⟩ := id hM
  refine zM_of zyX11_gather_ rfl (Nat.le_of_ble_eq_true rfl) (fun X hX => ?_)
  have fr : zFr MOL h h := zFr.rf
  have fin : ∀ b1 b2 : Bool, b1 = (isQ k && (isP p && isP q)) → b2 = true → (zV X (fun r9 h' n' => r9 = none ∧ n' = n ∧ MD h' wd pt Q qn tf tc L (thr (isQ k && (isP p && isP q)) true) ∧ zFr MOL h h') cX11_gather_ 5 RX11 none d 0 0 28 [(0, .ref 47), (1, .int (iI k)), (2, .int (iI p)), (3, .int (iI q)), (4, .int (iI (bz mi)))] [.int (iI (bz b2)), .int (iI (bz b1)), .ref 47] h n 0 0) := by
    intro b1 b2 e1 e2
    rw [← e1, ← e2]
    rw [← e1, ← e2] at hx
    refine v_cV (av := [.int (iI (bz b1)), .int (iI (bz b2))]) (st := []) zyX11_goes lX11_172 h_47 rfl (p_goes (d := 1) h_47) dX11_gather__28 rfl rfl (Nat.le_of_ble_eq_true rfl) (by omega) (Nat.le_of_ble_eq_true rfl) (Nat.le_of_ble_eq_true rfl) (Or.inl (fun _ _ _ q => ZN q)) (fun r9 G1 n9 q9 => ?_)
    obtain ⟨rfl, q9n, h_47, fr9⟩ := q9
    have q9n := q9n.symm
    subst q9n
    have h_48 := (fr9 48 (by decide)).trans h_48
    have h_49 := (fr9 49 (by decide)).trans h_49
    have h_58 := (fr9 58 (by decide)).trans h_58
    have h_66 := (fr9 66 (by decide)).trans h_66
    have h_67 := (fr9 67 (by decide)).trans h_67
    have h_68 := (fr9 68 (by decide)).trans h_68
    have h_73 := (fr9 73 (by decide)).trans h_73
    have nA := nA.fr fr9 (by decide) (by decide)
    have nB := nB.fr fr9 (by decide) (by decide)
    have nL := nL.fr fr9 (by decide) (by decide)
    have nR := nR.fr fr9 (by decide) (by decide)
    have nP := nP.fr fr9 (by decide) (by decide)
    have nS := nS.fr fr9 (by decide) (by decide)
    have nN := nN.fr fr9 (by decide) (by decide)
    have nD := nD.fr fr9 (by decide) (by decide)
    have nLo := nLo.fr fr9 (by decide) (by decide)
    have nUp := nUp.fr fr9 (by decide) (by decide)
    have hS := hS.fr fr9 (by decide) (by decide) (by decide)
    have hq := hq.fr fr9 (by decide)
    have fr := fr.tr fr9 (by decide)
    refine w_ifb_eq 56 dX11_gather__31 (by decide) (fun c1 => ?_) (fun c1 => ?_)
    · skip
      exact v_vret dX11_gather__56 trivial (Nat.le_of_ble_eq_true rfl) (Nat.le_of_ble_eq_true rfl) ⟨rfl, rfl, ⟨_, _, _, _, _, _, _, _, _, _, _, _, h_47, h_48, h_49, ⟨nA, nB, nL, nR, nP, nS, nN, nD, nLo, nUp⟩, h_58, ⟨_, _, hS⟩, hq, h_66, ⟨_, h_67, hbb, htx⟩, ⟨_, h_68⟩, ⟨_, h_73⟩⟩, fr⟩
    · rw [hx] at c1; exact absurd c1 (by decide)
  have jj : ∀ b1 : Bool, b1 = (isQ k && (isP p && isP q)) → (zV X (fun r9 h' n' => r9 = none ∧ n' = n ∧ MD h' wd pt Q qn tf tc L (thr (isQ k && (isP p && isP q)) true) ∧ zFr MOL h h') cX11_gather_ 5 RX11 none d 0 0 27 [(0, .ref 47), (1, .int (iI k)), (2, .int (iI p)), (3, .int (iI q)), (4, .int (iI (bz mi)))] [.int (iI (bz b1)), .ref 47] h n 0 0) := by
    intro b1 e1
    refine v_iconst (iI 1) dX11_gather__27 rfl ?_
    refine w_ei (bz true) rfl ?_
    exact fin b1 true e1 rfl
  refine v_aload_n dX11_gather__0 rfl ?_
  refine v_iload_n dX11_gather__1 rfl ?_
  refine v_cS (av := [.int (iI k)]) (st := [.ref 47]) zyX11_isQuire lX11_243 (p_isQuire (d := 1) hr_k) dX11_gather__2 rfl rfl (Nat.le_of_ble_eq_true rfl) (by omega) (Nat.le_of_ble_eq_true rfl) (Nat.le_of_ble_eq_true rfl) (Or.inl (fun _ _ _ q => ZN q)) (fun r9 K1 n9 q9 => ?_)
  obtain ⟨rfl, q9n, q9h⟩ := q9
  have q9n := q9n.symm
  subst q9n
  have q9h := q9h.symm
  subst q9h
  refine w_ei (bz (isQ k)) rfl ?_
  refine w_ifb_eq 26 dX11_gather__5 (by decide) (fun c0 => ?_) (fun c0 => ?_)
  · skip
    refine v_iconst (iI 0) dX11_gather__26 rfl ?_
    refine w_ei (bz false) rfl ?_
    exact jj false (by rw [c0]; rfl)
  · skip
    refine v_iload_n dX11_gather__8 rfl ?_
    refine v_cS (av := [.int (iI p)]) (st := [.ref 47]) zyX11_isPlace lX11_165 (p_isPlace (d := 1) hr_p) dX11_gather__9 rfl rfl (Nat.le_of_ble_eq_true rfl) (by omega) (Nat.le_of_ble_eq_true rfl) (Nat.le_of_ble_eq_true rfl) (Or.inl (fun _ _ _ q => ZN q)) (fun r9 K2 n9 q9 => ?_)
    obtain ⟨rfl, q9n, q9h⟩ := q9
    have q9n := q9n.symm
    subst q9n
    have q9h := q9h.symm
    subst q9h
    refine w_ei (bz (isP p)) rfl ?_
    refine w_ifb_eq 26 dX11_gather__12 (by decide) (fun c1 => ?_) (fun c1 => ?_)
    · skip
      refine v_iconst (iI 0) dX11_gather__26 rfl ?_
      refine w_ei (bz false) rfl ?_
      exact jj false (by rw [c0, c1]; rfl)
    · skip
      refine v_iload_n dX11_gather__15 rfl ?_
      refine v_cS (av := [.int (iI q)]) (st := [.ref 47]) zyX11_isPlace lX11_165 (p_isPlace (d := 1) hr_q) dX11_gather__16 rfl rfl (Nat.le_of_ble_eq_true rfl) (by omega) (Nat.le_of_ble_eq_true rfl) (Nat.le_of_ble_eq_true rfl) (Or.inl (fun _ _ _ q => ZN q)) (fun r9 K3 n9 q9 => ?_)
      obtain ⟨rfl, q9n, q9h⟩ := q9
      have q9n := q9n.symm
      subst q9n
      have q9h := q9h.symm
      subst q9h
      refine w_ei (bz (isP q)) rfl ?_
      refine w_ifb_eq 26 dX11_gather__19 (by decide) (fun c2 => ?_) (fun c2 => ?_)
      · skip
        refine v_iconst (iI 0) dX11_gather__26 rfl ?_
        refine w_ei (bz false) rfl ?_
        exact jj false (by rw [c0, c1, c2]; rfl)
      · skip
        refine v_iconst (iI 1) dX11_gather__22 rfl ?_
        refine v_goto 27 dX11_gather__23 (by decide) ?_
        refine w_ei (bz true) rfl ?_
        exact jj true (by rw [c0, c1, c2]; rfl)
set_option maxHeartbeats 8000000 in
set_option maxRecDepth 100000 in
theorem p_Msettlex {d n tc : Nat} {wd pt tf : Nat → Nat} {Q : Nat → Int} {qn : Nat → Bool} {L : List Nat} {th k r : Int}  {h : zH} (hM : MD h wd pt Q qn tf tc L th) (hr_k : -2147483648 ≤ k ∧ k < 2147483648) (hr_r : -2147483648 ≤ r ∧ r < 2147483648) (hx : ((isQ k && isP r) && true) = false) (hd : 2 ≤ d) :
    zM yX11_settle cX11_settle 3 none d 0 0 [.ref 47, .int (iI k), .int (iI r)] h n (fun r9 h' n' => r9 = none ∧ n' = n ∧ MD h' wd pt Q qn tf tc L (thr (isQ k && isP r) true) ∧ zFr MOL h h') := by
  obtain ⟨vs, vm, ve, sg, e, rt, at9, sz, dg, pw, tn, fm, h_47, h_48, h_49, ⟨nA, nB, nL, nR, nP, nS, nN, nD, nLo, nUp⟩, h_58, ⟨Q0, n0, hS⟩, hq, h_66, ⟨tx, h_67, hbb, htx⟩, ⟨fg, h_68⟩, ⟨fw, h_73⟩⟩ := id hM
  refine zM_of zyX11_settle rfl (Nat.le_of_ble_eq_true rfl) (fun X hX => ?_)
  have fr : zFr MOL h h := zFr.rf
  have fin : ∀ b1 b2 : Bool, b1 = (isQ k && isP r) → b2 = true → (zV X (fun r9 h' n' => r9 = none ∧ n' = n ∧ MD h' wd pt Q qn tf tc L (thr (isQ k && isP r) true) ∧ zFr MOL h h') cX11_settle 3 RX11 none d 0 0 21 [(0, .ref 47), (1, .int (iI k)), (2, .int (iI r))] [.int (iI (bz b2)), .int (iI (bz b1)), .ref 47] h n 0 0) := by
    intro b1 b2 e1 e2
    rw [← e1, ← e2]
    rw [← e1, ← e2] at hx
    refine v_cV (av := [.int (iI (bz b1)), .int (iI (bz b2))]) (st := []) zyX11_goes lX11_172 h_47 rfl (p_goes (d := 1) h_47) dX11_settle_21 rfl rfl (Nat.le_of_ble_eq_true rfl) (by omega) (Nat.le_of_ble_eq_true rfl) (Nat.le_of_ble_eq_true rfl) (Or.inl (fun _ _ _ q => ZN q)) (fun r9 G1 n9 q9 => ?_)
    obtain ⟨rfl, q9n, h_47, fr9⟩ := q9
    have q9n := q9n.symm
    subst q9n
    have h_48 := (fr9 48 (by decide)).trans h_48
    have h_49 := (fr9 49 (by decide)).trans h_49
    have h_58 := (fr9 58 (by decide)).trans h_58
    have h_66 := (fr9 66 (by decide)).trans h_66
    have h_67 := (fr9 67 (by decide)).trans h_67
    have h_68 := (fr9 68 (by decide)).trans h_68
    have h_73 := (fr9 73 (by decide)).trans h_73
    have nA := nA.fr fr9 (by decide) (by decide)
    have nB := nB.fr fr9 (by decide) (by decide)
    have nL := nL.fr fr9 (by decide) (by decide)
    have nR := nR.fr fr9 (by decide) (by decide)
    have nP := nP.fr fr9 (by decide) (by decide)
    have nS := nS.fr fr9 (by decide) (by decide)
    have nN := nN.fr fr9 (by decide) (by decide)
    have nD := nD.fr fr9 (by decide) (by decide)
    have nLo := nLo.fr fr9 (by decide) (by decide)
    have nUp := nUp.fr fr9 (by decide) (by decide)
    have hS := hS.fr fr9 (by decide) (by decide) (by decide)
    have hq := hq.fr fr9 (by decide)
    have fr := fr.tr fr9 (by decide)
    refine w_ifb_ne 28 dX11_settle_24 (by decide) (fun c1 => ?_) (fun c1 => ?_)
    · rw [hx] at c1; exact absurd c1 (by decide)
    · skip
      exact v_vret dX11_settle_27 trivial (Nat.le_of_ble_eq_true rfl) (Nat.le_of_ble_eq_true rfl) ⟨rfl, rfl, ⟨_, _, _, _, _, _, _, _, _, _, _, _, h_47, h_48, h_49, ⟨nA, nB, nL, nR, nP, nS, nN, nD, nLo, nUp⟩, h_58, ⟨_, _, hS⟩, hq, h_66, ⟨_, h_67, hbb, htx⟩, ⟨_, h_68⟩, ⟨_, h_73⟩⟩, fr⟩
  have jj : ∀ b1 : Bool, b1 = (isQ k && isP r) → (zV X (fun r9 h' n' => r9 = none ∧ n' = n ∧ MD h' wd pt Q qn tf tc L (thr (isQ k && isP r) true) ∧ zFr MOL h h') cX11_settle 3 RX11 none d 0 0 20 [(0, .ref 47), (1, .int (iI k)), (2, .int (iI r))] [.int (iI (bz b1)), .ref 47] h n 0 0) := by
    intro b1 e1
    refine v_iconst (iI 1) dX11_settle_20 rfl ?_
    refine w_ei (bz true) rfl ?_
    exact fin b1 true e1 rfl
  refine v_aload_n dX11_settle_0 rfl ?_
  refine v_iload_n dX11_settle_1 rfl ?_
  refine v_cS (av := [.int (iI k)]) (st := [.ref 47]) zyX11_isQuire lX11_243 (p_isQuire (d := 1) hr_k) dX11_settle_2 rfl rfl (Nat.le_of_ble_eq_true rfl) (by omega) (Nat.le_of_ble_eq_true rfl) (Nat.le_of_ble_eq_true rfl) (Or.inl (fun _ _ _ q => ZN q)) (fun r9 K1 n9 q9 => ?_)
  obtain ⟨rfl, q9n, q9h⟩ := q9
  have q9n := q9n.symm
  subst q9n
  have q9h := q9h.symm
  subst q9h
  refine w_ei (bz (isQ k)) rfl ?_
  refine w_ifb_eq 19 dX11_settle_5 (by decide) (fun c0 => ?_) (fun c0 => ?_)
  · skip
    refine v_iconst (iI 0) dX11_settle_19 rfl ?_
    refine w_ei (bz false) rfl ?_
    exact jj false (by rw [c0]; rfl)
  · skip
    refine v_iload_n dX11_settle_8 rfl ?_
    refine v_cS (av := [.int (iI r)]) (st := [.ref 47]) zyX11_isPlace lX11_165 (p_isPlace (d := 1) hr_r) dX11_settle_9 rfl rfl (Nat.le_of_ble_eq_true rfl) (by omega) (Nat.le_of_ble_eq_true rfl) (Nat.le_of_ble_eq_true rfl) (Or.inl (fun _ _ _ q => ZN q)) (fun r9 K2 n9 q9 => ?_)
    obtain ⟨rfl, q9n, q9h⟩ := q9
    have q9n := q9n.symm
    subst q9n
    have q9h := q9h.symm
    subst q9h
    refine w_ei (bz (isP r)) rfl ?_
    refine w_ifb_eq 19 dX11_settle_12 (by decide) (fun c1 => ?_) (fun c1 => ?_)
    · skip
      refine v_iconst (iI 0) dX11_settle_19 rfl ?_
      refine w_ei (bz false) rfl ?_
      exact jj false (by rw [c0, c1]; rfl)
    · skip
      refine v_iconst (iI 1) dX11_settle_15 rfl ?_
      refine v_goto 20 dX11_settle_16 (by decide) ?_
      refine w_ei (bz true) rfl ?_
      exact jj true (by rw [c0, c1]; rfl)
set_option maxHeartbeats 8000000 in
set_option maxRecDepth 100000 in
theorem p_Morderx {d n tc : Nat} {wd pt tf : Nat → Nat} {Q : Nat → Int} {qn : Nat → Bool} {L : List Nat} {th p q : Int}  {h : zH} (hM : MD h wd pt Q qn tf tc L th) (hr_p : -2147483648 ≤ p ∧ p < 2147483648) (hr_q : -2147483648 ≤ q ∧ q < 2147483648) (hx : ((isP p && isP q) && true) = false) (hd : 2 ≤ d) :
    zM yX11_order cX11_order 3 (some .int) d 0 0 [.ref 47, .int (iI p), .int (iI q)] h n (fun r9 h' n' => r9 = some (.int (iI 0)) ∧ n' = n ∧ MD h' wd pt Q qn tf tc L (thr (isP p && isP q) true) ∧ zFr MOL h h') := by
  obtain ⟨vs, vm, ve, sg, e, rt, at9, sz, dg, pw, tn, fm, h_47, h_48, h_49, ⟨nA, nB, nL, nR, nP, nS, nN, nD, nLo, nUp⟩, h_58, ⟨Q0, n0, hS⟩, hq, h_66, ⟨tx, h_67, hbb, htx⟩, ⟨fg, h_68⟩, ⟨fw, h_73⟩⟩ := id hM
  refine zM_of zyX11_order rfl (Nat.le_of_ble_eq_true rfl) (fun X hX => ?_)
  have fr : zFr MOL h h := zFr.rf
  have fin : ∀ b1 b2 : Bool, b1 = (isP p && isP q) → b2 = true → (zV X (fun r9 h' n' => r9 = some (.int (iI 0)) ∧ n' = n ∧ MD h' wd pt Q qn tf tc L (thr (isP p && isP q) true) ∧ zFr MOL h h') cX11_order 3 RX11 (some .int) d 0 0 21 [(0, .ref 47), (1, .int (iI p)), (2, .int (iI q))] [.int (iI (bz b2)), .int (iI (bz b1)), .ref 47] h n 0 0) := by
    intro b1 b2 e1 e2
    rw [← e1, ← e2]
    rw [← e1, ← e2] at hx
    refine v_cV (av := [.int (iI (bz b1)), .int (iI (bz b2))]) (st := []) zyX11_goes lX11_172 h_47 rfl (p_goes (d := 1) h_47) dX11_order_21 rfl rfl (Nat.le_of_ble_eq_true rfl) (by omega) (Nat.le_of_ble_eq_true rfl) (Nat.le_of_ble_eq_true rfl) (Or.inl (fun _ _ _ q => ZN q)) (fun r9 G1 n9 q9 => ?_)
    obtain ⟨rfl, q9n, h_47, fr9⟩ := q9
    have q9n := q9n.symm
    subst q9n
    have h_48 := (fr9 48 (by decide)).trans h_48
    have h_49 := (fr9 49 (by decide)).trans h_49
    have h_58 := (fr9 58 (by decide)).trans h_58
    have h_66 := (fr9 66 (by decide)).trans h_66
    have h_67 := (fr9 67 (by decide)).trans h_67
    have h_68 := (fr9 68 (by decide)).trans h_68
    have h_73 := (fr9 73 (by decide)).trans h_73
    have nA := nA.fr fr9 (by decide) (by decide)
    have nB := nB.fr fr9 (by decide) (by decide)
    have nL := nL.fr fr9 (by decide) (by decide)
    have nR := nR.fr fr9 (by decide) (by decide)
    have nP := nP.fr fr9 (by decide) (by decide)
    have nS := nS.fr fr9 (by decide) (by decide)
    have nN := nN.fr fr9 (by decide) (by decide)
    have nD := nD.fr fr9 (by decide) (by decide)
    have nLo := nLo.fr fr9 (by decide) (by decide)
    have nUp := nUp.fr fr9 (by decide) (by decide)
    have hS := hS.fr fr9 (by decide) (by decide) (by decide)
    have hq := hq.fr fr9 (by decide)
    have fr := fr.tr fr9 (by decide)
    refine w_ifb_ne 29 dX11_order_24 (by decide) (fun c1 => ?_) (fun c1 => ?_)
    · rw [hx] at c1; exact absurd c1 (by decide)
    · skip
      refine v_iconst (iI 0) dX11_order_27 rfl ?_
      exact v_iret dX11_order_28 trivial (Nat.le_of_ble_eq_true rfl) (Nat.le_of_ble_eq_true rfl) ⟨rfl, rfl, ⟨_, _, _, _, _, _, _, _, _, _, _, _, h_47, h_48, h_49, ⟨nA, nB, nL, nR, nP, nS, nN, nD, nLo, nUp⟩, h_58, ⟨_, _, hS⟩, hq, h_66, ⟨_, h_67, hbb, htx⟩, ⟨_, h_68⟩, ⟨_, h_73⟩⟩, fr⟩
  have jj : ∀ b1 : Bool, b1 = (isP p && isP q) → (zV X (fun r9 h' n' => r9 = some (.int (iI 0)) ∧ n' = n ∧ MD h' wd pt Q qn tf tc L (thr (isP p && isP q) true) ∧ zFr MOL h h') cX11_order 3 RX11 (some .int) d 0 0 20 [(0, .ref 47), (1, .int (iI p)), (2, .int (iI q))] [.int (iI (bz b1)), .ref 47] h n 0 0) := by
    intro b1 e1
    refine v_iconst (iI 1) dX11_order_20 rfl ?_
    refine w_ei (bz true) rfl ?_
    exact fin b1 true e1 rfl
  refine v_aload_n dX11_order_0 rfl ?_
  refine v_iload_n dX11_order_1 rfl ?_
  refine v_cS (av := [.int (iI p)]) (st := [.ref 47]) zyX11_isPlace lX11_165 (p_isPlace (d := 1) hr_p) dX11_order_2 rfl rfl (Nat.le_of_ble_eq_true rfl) (by omega) (Nat.le_of_ble_eq_true rfl) (Nat.le_of_ble_eq_true rfl) (Or.inl (fun _ _ _ q => ZN q)) (fun r9 K1 n9 q9 => ?_)
  obtain ⟨rfl, q9n, q9h⟩ := q9
  have q9n := q9n.symm
  subst q9n
  have q9h := q9h.symm
  subst q9h
  refine w_ei (bz (isP p)) rfl ?_
  refine w_ifb_eq 19 dX11_order_5 (by decide) (fun c0 => ?_) (fun c0 => ?_)
  · skip
    refine v_iconst (iI 0) dX11_order_19 rfl ?_
    refine w_ei (bz false) rfl ?_
    exact jj false (by rw [c0]; rfl)
  · skip
    refine v_iload_n dX11_order_8 rfl ?_
    refine v_cS (av := [.int (iI q)]) (st := [.ref 47]) zyX11_isPlace lX11_165 (p_isPlace (d := 1) hr_q) dX11_order_9 rfl rfl (Nat.le_of_ble_eq_true rfl) (by omega) (Nat.le_of_ble_eq_true rfl) (Nat.le_of_ble_eq_true rfl) (Or.inl (fun _ _ _ q => ZN q)) (fun r9 K2 n9 q9 => ?_)
    obtain ⟨rfl, q9n, q9h⟩ := q9
    have q9n := q9n.symm
    subst q9n
    have q9h := q9h.symm
    subst q9h
    refine w_ei (bz (isP q)) rfl ?_
    refine w_ifb_eq 19 dX11_order_12 (by decide) (fun c1 => ?_) (fun c1 => ?_)
    · skip
      refine v_iconst (iI 0) dX11_order_19 rfl ?_
      refine w_ei (bz false) rfl ?_
      exact jj false (by rw [c0, c1]; rfl)
    · skip
      refine v_iconst (iI 1) dX11_order_15 rfl ?_
      refine v_goto 20 dX11_order_16 (by decide) ?_
      refine w_ei (bz true) rfl ?_
      exact jj true (by rw [c0, c1]; rfl)
set_option maxHeartbeats 8000000 in
set_option maxRecDepth 100000 in
theorem p_Mdotx {d n tc : Nat} {wd pt tf : Nat → Nat} {Q : Nat → Int} {qn : Nat → Bool} {L : List Nat} {th k p q m : Int}  {h : zH} (hM : MD h wd pt Q qn tf tc L th) (hr_k : -2147483648 ≤ k ∧ k < 2147483648) (hr_p : -2147483648 ≤ p ∧ p < 2147483648) (hr_q : -2147483648 ≤ q ∧ q < 2147483648) (hr_m : -2147483648 ≤ m ∧ m < 2147483648) (hx : ((isQ k && (isP p && isP q)) && (decide (0 ≤ m ∧ m ≤ 32))) = false) (hd : 2 ≤ d) :
    zM yX11_dot cX11_dot 6 none d 0 0 [.ref 47, .int (iI k), .int (iI p), .int (iI q), .int (iI m)] h n (fun r9 h' n' => r9 = none ∧ n' = n ∧ MD h' wd pt Q qn tf tc L (thr (isQ k && (isP p && isP q)) (decide (0 ≤ m ∧ m ≤ 32))) ∧ zFr MOL h h') := by
  obtain ⟨vs, vm, ve, sg, e, rt, at9, sz, dg, pw, tn, fm, h_47, h_48, h_49, ⟨nA, nB, nL, nR, nP, nS, nN, nD, nLo, nUp⟩, h_58, ⟨Q0, n0, hS⟩, hq, h_66, ⟨tx, h_67, hbb, htx⟩, ⟨fg, h_68⟩, ⟨fw, h_73⟩⟩ := id hM
  refine zM_of zyX11_dot rfl (Nat.le_of_ble_eq_true rfl) (fun X hX => ?_)
  have fr : zFr MOL h h := zFr.rf
  have fin : ∀ b1 b2 : Bool, b1 = (isQ k && (isP p && isP q)) → b2 = (decide (0 ≤ m ∧ m ≤ 32)) → (zV X (fun r9 h' n' => r9 = none ∧ n' = n ∧ MD h' wd pt Q qn tf tc L (thr (isQ k && (isP p && isP q)) (decide (0 ≤ m ∧ m ≤ 32))) ∧ zFr MOL h h') cX11_dot 6 RX11 none d 0 0 44 [(0, .ref 47), (1, .int (iI k)), (2, .int (iI p)), (3, .int (iI q)), (4, .int (iI m))] [.int (iI (bz b2)), .int (iI (bz b1)), .ref 47] h n 0 0) := by
    intro b1 b2 e1 e2
    rw [← e1, ← e2]
    rw [← e1, ← e2] at hx
    refine v_cV (av := [.int (iI (bz b1)), .int (iI (bz b2))]) (st := []) zyX11_goes lX11_172 h_47 rfl (p_goes (d := 1) h_47) dX11_dot_44 rfl rfl (Nat.le_of_ble_eq_true rfl) (by omega) (Nat.le_of_ble_eq_true rfl) (Nat.le_of_ble_eq_true rfl) (Or.inl (fun _ _ _ q => ZN q)) (fun r9 G1 n9 q9 => ?_)
    obtain ⟨rfl, q9n, h_47, fr9⟩ := q9
    have q9n := q9n.symm
    subst q9n
    have h_48 := (fr9 48 (by decide)).trans h_48
    have h_49 := (fr9 49 (by decide)).trans h_49
    have h_58 := (fr9 58 (by decide)).trans h_58
    have h_66 := (fr9 66 (by decide)).trans h_66
    have h_67 := (fr9 67 (by decide)).trans h_67
    have h_68 := (fr9 68 (by decide)).trans h_68
    have h_73 := (fr9 73 (by decide)).trans h_73
    have nA := nA.fr fr9 (by decide) (by decide)
    have nB := nB.fr fr9 (by decide) (by decide)
    have nL := nL.fr fr9 (by decide) (by decide)
    have nR := nR.fr fr9 (by decide) (by decide)
    have nP := nP.fr fr9 (by decide) (by decide)
    have nS := nS.fr fr9 (by decide) (by decide)
    have nN := nN.fr fr9 (by decide) (by decide)
    have nD := nD.fr fr9 (by decide) (by decide)
    have nLo := nLo.fr fr9 (by decide) (by decide)
    have nUp := nUp.fr fr9 (by decide) (by decide)
    have hS := hS.fr fr9 (by decide) (by decide) (by decide)
    have hq := hq.fr fr9 (by decide)
    have fr := fr.tr fr9 (by decide)
    refine w_ifb_ne 51 dX11_dot_47 (by decide) (fun c1 => ?_) (fun c1 => ?_)
    · rw [hx] at c1; exact absurd c1 (by decide)
    · skip
      exact v_vret dX11_dot_50 trivial (Nat.le_of_ble_eq_true rfl) (Nat.le_of_ble_eq_true rfl) ⟨rfl, rfl, ⟨_, _, _, _, _, _, _, _, _, _, _, _, h_47, h_48, h_49, ⟨nA, nB, nL, nR, nP, nS, nN, nD, nLo, nUp⟩, h_58, ⟨_, _, hS⟩, hq, h_66, ⟨_, h_67, hbb, htx⟩, ⟨_, h_68⟩, ⟨_, h_73⟩⟩, fr⟩
  have jj : ∀ b1 : Bool, b1 = (isQ k && (isP p && isP q)) → (zV X (fun r9 h' n' => r9 = none ∧ n' = n ∧ MD h' wd pt Q qn tf tc L (thr (isQ k && (isP p && isP q)) (decide (0 ≤ m ∧ m ≤ 32))) ∧ zFr MOL h h') cX11_dot 6 RX11 none d 0 0 27 [(0, .ref 47), (1, .int (iI k)), (2, .int (iI p)), (3, .int (iI q)), (4, .int (iI m))] [.int (iI (bz b1)), .ref 47] h n 0 0) := by
    intro b1 e1
    refine v_iload dX11_dot_27 rfl ?_
    refine w_if_lt 43 dX11_dot_29 (by decide) (by omega) (fun c1 => ?_) (fun c1 => ?_)
    · skip
      refine v_iconst (iI 0) dX11_dot_43 rfl ?_
      refine w_ei (bz false) rfl ?_
      exact fin b1 false e1 (decide_eq_false (by omega)).symm
    · skip
      refine v_iload dX11_dot_32 rfl ?_
      refine v_bipush (iI 32) dX11_dot_34 rfl ?_
      refine w_icmp_gt 43 dX11_dot_36 (by decide) (by omega) (by decide) (fun c2 => ?_) (fun c2 => ?_)
      · skip
        refine v_iconst (iI 0) dX11_dot_43 rfl ?_
        refine w_ei (bz false) rfl ?_
        exact fin b1 false e1 (decide_eq_false (by omega)).symm
      · skip
        refine v_iconst (iI 1) dX11_dot_39 rfl ?_
        refine v_goto 44 dX11_dot_40 (by decide) ?_
        refine w_ei (bz true) rfl ?_
        exact fin b1 true e1 (decide_eq_true (by omega)).symm
  refine v_aload_n dX11_dot_0 rfl ?_
  refine v_iload_n dX11_dot_1 rfl ?_
  refine v_cS (av := [.int (iI k)]) (st := [.ref 47]) zyX11_isQuire lX11_243 (p_isQuire (d := 1) hr_k) dX11_dot_2 rfl rfl (Nat.le_of_ble_eq_true rfl) (by omega) (Nat.le_of_ble_eq_true rfl) (Nat.le_of_ble_eq_true rfl) (Or.inl (fun _ _ _ q => ZN q)) (fun r9 K1 n9 q9 => ?_)
  obtain ⟨rfl, q9n, q9h⟩ := q9
  have q9n := q9n.symm
  subst q9n
  have q9h := q9h.symm
  subst q9h
  refine w_ei (bz (isQ k)) rfl ?_
  refine w_ifb_eq 26 dX11_dot_5 (by decide) (fun c0 => ?_) (fun c0 => ?_)
  · skip
    refine v_iconst (iI 0) dX11_dot_26 rfl ?_
    refine w_ei (bz false) rfl ?_
    exact jj false (by rw [c0]; rfl)
  · skip
    refine v_iload_n dX11_dot_8 rfl ?_
    refine v_cS (av := [.int (iI p)]) (st := [.ref 47]) zyX11_isPlace lX11_165 (p_isPlace (d := 1) hr_p) dX11_dot_9 rfl rfl (Nat.le_of_ble_eq_true rfl) (by omega) (Nat.le_of_ble_eq_true rfl) (Nat.le_of_ble_eq_true rfl) (Or.inl (fun _ _ _ q => ZN q)) (fun r9 K2 n9 q9 => ?_)
    obtain ⟨rfl, q9n, q9h⟩ := q9
    have q9n := q9n.symm
    subst q9n
    have q9h := q9h.symm
    subst q9h
    refine w_ei (bz (isP p)) rfl ?_
    refine w_ifb_eq 26 dX11_dot_12 (by decide) (fun c1 => ?_) (fun c1 => ?_)
    · skip
      refine v_iconst (iI 0) dX11_dot_26 rfl ?_
      refine w_ei (bz false) rfl ?_
      exact jj false (by rw [c0, c1]; rfl)
    · skip
      refine v_iload_n dX11_dot_15 rfl ?_
      refine v_cS (av := [.int (iI q)]) (st := [.ref 47]) zyX11_isPlace lX11_165 (p_isPlace (d := 1) hr_q) dX11_dot_16 rfl rfl (Nat.le_of_ble_eq_true rfl) (by omega) (Nat.le_of_ble_eq_true rfl) (Nat.le_of_ble_eq_true rfl) (Or.inl (fun _ _ _ q => ZN q)) (fun r9 K3 n9 q9 => ?_)
      obtain ⟨rfl, q9n, q9h⟩ := q9
      have q9n := q9n.symm
      subst q9n
      have q9h := q9h.symm
      subst q9h
      refine w_ei (bz (isP q)) rfl ?_
      refine w_ifb_eq 26 dX11_dot_19 (by decide) (fun c2 => ?_) (fun c2 => ?_)
      · skip
        refine v_iconst (iI 0) dX11_dot_26 rfl ?_
        refine w_ei (bz false) rfl ?_
        exact jj false (by rw [c0, c1, c2]; rfl)
      · skip
        refine v_iconst (iI 1) dX11_dot_22 rfl ?_
        refine v_goto 27 dX11_dot_23 (by decide) ?_
        refine w_ei (bz true) rfl ?_
        exact jj true (by rw [c0, c1, c2]; rfl)
set_option maxHeartbeats 8000000 in
set_option maxRecDepth 100000 in
theorem p_Mimagex {d n tc : Nat} {wd pt tf : Nat → Nat} {Q : Nat → Int} {qn : Nat → Bool} {L : List Nat} {th k i : Int}  {h : zH} (hM : MD h wd pt Q qn tf tc L th) (hr_k : -2147483648 ≤ k ∧ k < 2147483648) (hr_i : -2147483648 ≤ i ∧ i < 2147483648) (hx : ((isQ k) && (decide (0 ≤ i ∧ i < 16))) = false) (hd : 2 ≤ d) :
    zM yX11_image cX11_image 9 (some .int) d 0 0 [.ref 47, .int (iI k), .int (iI i)] h n (fun r9 h' n' => r9 = some (.int (iI 0)) ∧ n' = n ∧ MD h' wd pt Q qn tf tc L (thr (isQ k) (decide (0 ≤ i ∧ i < 16))) ∧ zFr MOL h h') := by
  obtain ⟨vs, vm, ve, sg, e, rt, at9, sz, dg, pw, tn, fm, h_47, h_48, h_49, ⟨nA, nB, nL, nR, nP, nS, nN, nD, nLo, nUp⟩, h_58, ⟨Q0, n0, hS⟩, hq, h_66, ⟨tx, h_67, hbb, htx⟩, ⟨fg, h_68⟩, ⟨fw, h_73⟩⟩ := id hM
  refine zM_of zyX11_image rfl (Nat.le_of_ble_eq_true rfl) (fun X hX => ?_)
  have fr : zFr MOL h h := zFr.rf
  have fin : ∀ b1 b2 : Bool, b1 = (isQ k) → b2 = (decide (0 ≤ i ∧ i < 16)) → (zV X (fun r9 h' n' => r9 = some (.int (iI 0)) ∧ n' = n ∧ MD h' wd pt Q qn tf tc L (thr (isQ k) (decide (0 ≤ i ∧ i < 16))) ∧ zFr MOL h h') cX11_image 9 RX11 (some .int) d 0 0 20 [(0, .ref 47), (1, .int (iI k)), (2, .int (iI i))] [.int (iI (bz b2)), .int (iI (bz b1)), .ref 47] h n 0 0) := by
    intro b1 b2 e1 e2
    rw [← e1, ← e2]
    rw [← e1, ← e2] at hx
    refine v_cV (av := [.int (iI (bz b1)), .int (iI (bz b2))]) (st := []) zyX11_goes lX11_172 h_47 rfl (p_goes (d := 1) h_47) dX11_image_20 rfl rfl (Nat.le_of_ble_eq_true rfl) (by omega) (Nat.le_of_ble_eq_true rfl) (Nat.le_of_ble_eq_true rfl) (Or.inl (fun _ _ _ q => ZN q)) (fun r9 G1 n9 q9 => ?_)
    obtain ⟨rfl, q9n, h_47, fr9⟩ := q9
    have q9n := q9n.symm
    subst q9n
    have h_48 := (fr9 48 (by decide)).trans h_48
    have h_49 := (fr9 49 (by decide)).trans h_49
    have h_58 := (fr9 58 (by decide)).trans h_58
    have h_66 := (fr9 66 (by decide)).trans h_66
    have h_67 := (fr9 67 (by decide)).trans h_67
    have h_68 := (fr9 68 (by decide)).trans h_68
    have h_73 := (fr9 73 (by decide)).trans h_73
    have nA := nA.fr fr9 (by decide) (by decide)
    have nB := nB.fr fr9 (by decide) (by decide)
    have nL := nL.fr fr9 (by decide) (by decide)
    have nR := nR.fr fr9 (by decide) (by decide)
    have nP := nP.fr fr9 (by decide) (by decide)
    have nS := nS.fr fr9 (by decide) (by decide)
    have nN := nN.fr fr9 (by decide) (by decide)
    have nD := nD.fr fr9 (by decide) (by decide)
    have nLo := nLo.fr fr9 (by decide) (by decide)
    have nUp := nUp.fr fr9 (by decide) (by decide)
    have hS := hS.fr fr9 (by decide) (by decide) (by decide)
    have hq := hq.fr fr9 (by decide)
    have fr := fr.tr fr9 (by decide)
    refine w_ifb_ne 28 dX11_image_23 (by decide) (fun c1 => ?_) (fun c1 => ?_)
    · rw [hx] at c1; exact absurd c1 (by decide)
    · skip
      refine v_iconst (iI 0) dX11_image_26 rfl ?_
      exact v_iret dX11_image_27 trivial (Nat.le_of_ble_eq_true rfl) (Nat.le_of_ble_eq_true rfl) ⟨rfl, rfl, ⟨_, _, _, _, _, _, _, _, _, _, _, _, h_47, h_48, h_49, ⟨nA, nB, nL, nR, nP, nS, nN, nD, nLo, nUp⟩, h_58, ⟨_, _, hS⟩, hq, h_66, ⟨_, h_67, hbb, htx⟩, ⟨_, h_68⟩, ⟨_, h_73⟩⟩, fr⟩
  refine v_aload_n dX11_image_0 rfl ?_
  refine v_iload_n dX11_image_1 rfl ?_
  refine v_cS (av := [.int (iI k)]) (st := [.ref 47]) zyX11_isQuire lX11_243 (p_isQuire (d := 1) hr_k) dX11_image_2 rfl rfl (Nat.le_of_ble_eq_true rfl) (by omega) (Nat.le_of_ble_eq_true rfl) (Nat.le_of_ble_eq_true rfl) (Or.inl (fun _ _ _ q => ZN q)) (fun r9 K1 n9 q9 => ?_)
  obtain ⟨rfl, q9n, q9h⟩ := q9
  have q9n := q9n.symm
  subst q9n
  have q9h := q9h.symm
  subst q9h
  refine w_ei (bz (isQ k)) rfl ?_
  refine v_iload_n dX11_image_5 rfl ?_
  refine w_if_lt 19 dX11_image_6 (by decide) (by omega) (fun c1 => ?_) (fun c1 => ?_)
  · skip
    refine v_iconst (iI 0) dX11_image_19 rfl ?_
    refine w_ei (bz false) rfl ?_
    exact fin _ false rfl (decide_eq_false (by omega)).symm
  · skip
    refine v_iload_n dX11_image_9 rfl ?_
    refine v_bipush (iI 16) dX11_image_10 rfl ?_
    refine w_icmp_ge 19 dX11_image_12 (by decide) (by omega) (by decide) (fun c2 => ?_) (fun c2 => ?_)
    · skip
      refine v_iconst (iI 0) dX11_image_19 rfl ?_
      refine w_ei (bz false) rfl ?_
      exact fin _ false rfl (decide_eq_false (by omega)).symm
    · skip
      refine v_iconst (iI 1) dX11_image_15 rfl ?_
      refine v_goto 20 dX11_image_16 (by decide) ?_
      refine w_ei (bz true) rfl ?_
      exact fin _ true rfl (decide_eq_true (by omega)).symm
noncomputable def mor (wd pt : Nat → Nat) (a1 a2 : Nat) : Int := if pt a1 = 2 ^ (wd a1 - 1) ∨ pt a2 = 2 ^ (wd a2 - 1) then (if pt a1 = 2 ^ (wd a1 - 1) then (if pt a2 = 2 ^ (wd a2 - 1) then 0 else -1) else 1) else sgI (mjS wd pt a1 a2 (-1))
set_option maxHeartbeats 8000000 in
set_option maxRecDepth 100000 in
theorem p_Morder {d n tc a1 a2 : Nat} {wd pt tf : Nat → Nat} {Q : Nat → Int} {qn : Nat → Bool} {L : List Nat} {th : Int} {h : zH} (hM : MD h wd pt Q qn tf tc L th) (hPL : PL wd pt) (h1 : a1 < 32) (h2 : a2 < 32) (hd : 4 ≤ d) :
    zM yX11_order cX11_order 3 (some .int) d 0 0 [.ref 47, .int (iI (a1:Nat)), .int (iI (a2:Nat))] h n (fun r9 h' n' => r9 = some (.int (iI (mor wd pt a1 a2))) ∧ n' = n ∧ MD h' wd pt Q qn tf tc L 0 ∧ zFr MOL h h') := by
  obtain ⟨vs, vm, ve, sg, e, rt, at9, sz, dg, pw, tn, fm, h_47, h_48, h_49, ⟨nA, nB, nL, nR, nP, nS, nN, nD, nLo, nUp⟩, h_58, ⟨Q0, n0, hS⟩, hq, h_66, ⟨tx, h_67, hbb, htx⟩, ⟨fg, h_68⟩, ⟨fw, h_73⟩⟩ := id hM
  have w1 := hPL a1 h1
  have w2 := hPL a2 h2
  refine zM_of zyX11_order rfl (Nat.le_of_ble_eq_true rfl) (fun X hX => ?_)
  have fr : zFr MOL h h := zFr.rf
  refine v_aload_n dX11_order_0 rfl ?_
  refine v_iload_n dX11_order_1 rfl ?_
  refine v_cS (av := [.int (iI (a1:Nat))]) (st := [.ref 47]) zyX11_isPlace lX11_165 (p_isPlaceT (d := 3) h1) dX11_order_2 rfl rfl (Nat.le_of_ble_eq_true rfl) (by omega) (Nat.le_of_ble_eq_true rfl) (Nat.le_of_ble_eq_true rfl) (Or.inl (fun _ _ _ q => ZN q)) (fun r9 K1 n9 q9 => ?_)
  obtain ⟨rfl, q9n, q9h⟩ := q9
  have q9n := q9n.symm
  subst q9n
  have q9h := q9h.symm
  subst q9h
  refine w_ifb_eq 19 dX11_order_5 (by decide) (fun y1 => ?_) (fun y1 => ?_)
  · exact absurd y1 (by decide)
  · skip
    refine v_iload_n dX11_order_8 rfl ?_
    refine v_cS (av := [.int (iI (a2:Nat))]) (st := [.ref 47]) zyX11_isPlace lX11_165 (p_isPlaceT (d := 3) h2) dX11_order_9 rfl rfl (Nat.le_of_ble_eq_true rfl) (by omega) (Nat.le_of_ble_eq_true rfl) (Nat.le_of_ble_eq_true rfl) (Or.inl (fun _ _ _ q => ZN q)) (fun r9 K2 n9 q9 => ?_)
    obtain ⟨rfl, q9n, q9h⟩ := q9
    have q9n := q9n.symm
    subst q9n
    have q9h := q9h.symm
    subst q9h
    refine w_ifb_eq 19 dX11_order_12 (by decide) (fun y2 => ?_) (fun y2 => ?_)
    · exact absurd y2 (by decide)
    · skip
      refine v_iconst (iI 1) dX11_order_15 rfl ?_
      refine v_goto 20 dX11_order_16 (by decide) ?_
      refine w_ei (bz true) rfl ?_
      refine v_iconst (iI 1) dX11_order_20 rfl ?_
      refine w_ei (bz true) rfl ?_
      refine v_cV (av := [.int (iI (bz true)), .int (iI (bz true))]) (st := []) zyX11_goes lX11_172 h_47 rfl (p_goesT (d := 3) h_47) dX11_order_21 rfl rfl (Nat.le_of_ble_eq_true rfl) (by omega) (Nat.le_of_ble_eq_true rfl) (Nat.le_of_ble_eq_true rfl) (Or.inl (fun _ _ _ q => ZN q)) (fun r9 G1 n9 q9 => ?_)
      obtain ⟨rfl, q9n, h_47, fr9⟩ := q9
      have q9n := q9n.symm
      subst q9n
      have h_48 := (fr9 48 (by decide)).trans h_48
      have h_49 := (fr9 49 (by decide)).trans h_49
      have h_58 := (fr9 58 (by decide)).trans h_58
      have h_66 := (fr9 66 (by decide)).trans h_66
      have h_67 := (fr9 67 (by decide)).trans h_67
      have h_68 := (fr9 68 (by decide)).trans h_68
      have h_73 := (fr9 73 (by decide)).trans h_73
      have nA := nA.fr fr9 (by decide) (by decide)
      have nB := nB.fr fr9 (by decide) (by decide)
      have nL := nL.fr fr9 (by decide) (by decide)
      have nR := nR.fr fr9 (by decide) (by decide)
      have nP := nP.fr fr9 (by decide) (by decide)
      have nS := nS.fr fr9 (by decide) (by decide)
      have nN := nN.fr fr9 (by decide) (by decide)
      have nD := nD.fr fr9 (by decide) (by decide)
      have nLo := nLo.fr fr9 (by decide) (by decide)
      have nUp := nUp.fr fr9 (by decide) (by decide)
      have hS := hS.fr fr9 (by decide) (by decide) (by decide)
      have hq := hq.fr fr9 (by decide)
      have fr := fr.tr fr9 (by decide)
      refine w_ifb_ne 29 dX11_order_24 (by decide) (fun c1 => ?_) (fun c1 => ?_)
      · have nar : (pt a1 = 2 ^ (wd a1 - 1) ∨ pt a2 = 2 ^ (wd a2 - 1)) → (zV X (fun r9 h' n' => r9 = some (.int (iI (mor wd pt a1 a2))) ∧ n' = n ∧ MD h' wd pt Q qn tf tc L 0 ∧ zFr MOL h h') cX11_order 3 RX11 (some .int) d 0 0 45 [(0, .ref 47), (1, .int (iI (a1:Nat))), (2, .int (iI (a2:Nat)))] [] G1 n 0 0) := by
          intro hn
          refine v_aload_n dX11_order_45 rfl ?_
          refine v_iload_n dX11_order_46 rfl ?_
          refine v_cV (av := [.int (iI (a1:Nat))]) (st := []) zyX11_isNar lX11_176 h_47 rfl (p_misNar (d := 3) h_47 h_48 h_49 hPL h1) dX11_order_47 rfl rfl (Nat.le_of_ble_eq_true rfl) (by omega) (Nat.le_of_ble_eq_true rfl) (Nat.le_of_ble_eq_true rfl) (Or.inl (fun _ _ _ q => ZN q)) (fun r9 K1 n9 q9 => ?_)
          obtain ⟨rfl, q9n, q9h⟩ := q9
          have q9n := q9n.symm
          subst q9n
          have q9h := q9h.symm
          subst q9h
          refine w_ifb_eq 69 dX11_order_50 (by decide) (fun x1 => ?_) (fun x1 => ?_)
          · have x1 := of_decide_eq_false x1
            refine v_iconst (iI 1) dX11_order_69 rfl ?_
            exact v_iret dX11_order_70 trivial (Nat.le_of_ble_eq_true rfl) (Nat.le_of_ble_eq_true rfl) ⟨by unfold mor; rw [if_pos hn, if_neg x1], rfl, ⟨_, _, _, _, _, _, _, _, _, _, _, _, h_47, h_48, h_49, ⟨nA, nB, nL, nR, nP, nS, nN, nD, nLo, nUp⟩, h_58, ⟨_, _, hS⟩, hq, h_66, ⟨_, h_67, hbb, htx⟩, ⟨_, h_68⟩, ⟨_, h_73⟩⟩, fr⟩
          · have x1 := of_decide_eq_true x1
            refine v_aload_n dX11_order_53 rfl ?_
            refine v_iload_n dX11_order_54 rfl ?_
            refine v_cV (av := [.int (iI (a2:Nat))]) (st := []) zyX11_isNar lX11_176 h_47 rfl (p_misNar (d := 3) h_47 h_48 h_49 hPL h2) dX11_order_55 rfl rfl (Nat.le_of_ble_eq_true rfl) (by omega) (Nat.le_of_ble_eq_true rfl) (Nat.le_of_ble_eq_true rfl) (Or.inl (fun _ _ _ q => ZN q)) (fun r9 K2 n9 q9 => ?_)
            obtain ⟨rfl, q9n, q9h⟩ := q9
            have q9n := q9n.symm
            subst q9n
            have q9h := q9h.symm
            subst q9h
            refine w_ifb_eq 65 dX11_order_58 (by decide) (fun x2 => ?_) (fun x2 => ?_)
            · have x2 := of_decide_eq_false x2
              refine v_iconst (iI (-1)) dX11_order_65 rfl ?_
              refine v_goto 70 dX11_order_66 (by decide) ?_
              exact v_iret dX11_order_70 trivial (Nat.le_of_ble_eq_true rfl) (Nat.le_of_ble_eq_true rfl) ⟨by unfold mor; rw [if_pos hn, if_pos x1, if_neg x2], rfl, ⟨_, _, _, _, _, _, _, _, _, _, _, _, h_47, h_48, h_49, ⟨nA, nB, nL, nR, nP, nS, nN, nD, nLo, nUp⟩, h_58, ⟨_, _, hS⟩, hq, h_66, ⟨_, h_67, hbb, htx⟩, ⟨_, h_68⟩, ⟨_, h_73⟩⟩, fr⟩
            · have x2 := of_decide_eq_true x2
              refine v_iconst (iI 0) dX11_order_61 rfl ?_
              refine v_goto 70 dX11_order_62 (by decide) ?_
              exact v_iret dX11_order_70 trivial (Nat.le_of_ble_eq_true rfl) (Nat.le_of_ble_eq_true rfl) ⟨by unfold mor; rw [if_pos hn, if_pos x1, if_pos x2], rfl, ⟨_, _, _, _, _, _, _, _, _, _, _, _, h_47, h_48, h_49, ⟨nA, nB, nL, nR, nP, nS, nN, nD, nLo, nUp⟩, h_58, ⟨_, _, hS⟩, hq, h_66, ⟨_, h_67, hbb, htx⟩, ⟨_, h_68⟩, ⟨_, h_73⟩⟩, fr⟩
        refine v_aload_n dX11_order_29 rfl ?_
        refine v_iload_n dX11_order_30 rfl ?_
        refine v_cV (av := [.int (iI (a1:Nat))]) (st := []) zyX11_isNar lX11_176 h_47 rfl (p_misNar (d := 3) h_47 h_48 h_49 hPL h1) dX11_order_31 rfl rfl (Nat.le_of_ble_eq_true rfl) (by omega) (Nat.le_of_ble_eq_true rfl) (Nat.le_of_ble_eq_true rfl) (Or.inl (fun _ _ _ q => ZN q)) (fun r9 K3 n9 q9 => ?_)
        obtain ⟨rfl, q9n, q9h⟩ := q9
        have q9n := q9n.symm
        subst q9n
        have q9h := q9h.symm
        subst q9h
        refine w_ifb_ne 45 dX11_order_34 (by decide) (fun x1 => ?_) (fun x1 => ?_)
        · exact nar (Or.inl (of_decide_eq_true x1))
        · have x1 := of_decide_eq_false x1
          refine v_aload_n dX11_order_37 rfl ?_
          refine v_iload_n dX11_order_38 rfl ?_
          refine v_cV (av := [.int (iI (a2:Nat))]) (st := []) zyX11_isNar lX11_176 h_47 rfl (p_misNar (d := 3) h_47 h_48 h_49 hPL h2) dX11_order_39 rfl rfl (Nat.le_of_ble_eq_true rfl) (by omega) (Nat.le_of_ble_eq_true rfl) (Nat.le_of_ble_eq_true rfl) (Or.inl (fun _ _ _ q => ZN q)) (fun r9 K4 n9 q9 => ?_)
          obtain ⟨rfl, q9n, q9h⟩ := q9
          have q9n := q9n.symm
          subst q9n
          have q9h := q9h.symm
          subst q9h
          refine w_ifb_eq 71 dX11_order_42 (by decide) (fun x2 => ?_) (fun x2 => ?_)
          · have x2 := of_decide_eq_false x2
            have b1 := pv_b ⟨w1.1, w1.2.1⟩ w1.2.2 x1
            have e120 : nb ((2 ^ 120 : Nat) : Int).natAbs ≤ 130 := nb_le (by decide)
            have b3 := nb_mulZ (x := pvI (pt a1) (wd a1)) (y := ((2 ^ 120 : Nat) : Int))
            have b5 := nb_mulZ (x := 1) (y := pvI (pt a1) (wd a1) * ((2 ^ 120 : Nat) : Int))
            rw [nb_one (Or.inl rfl)] at b5
            have b7 := nb_addZ (x := 0) (y := 1 * (pvI (pt a1) (wd a1) * ((2 ^ 120 : Nat) : Int))) (k := 500) (Nat.zero_le _) (by omega)
            refine v_aload_n dX11_order_71 rfl ?_
            refine v_get fX11_134 dX11_order_72 h_47 (by decide) rfl ?_
            obtain ⟨h_59, -⟩ := id hS
            refine v_cV (av := []) (st := []) zyX10_clear lX11_217 h_59 rfl (p_sclear (d := 3) hS) dX11_order_75 rfl rfl (Nat.le_of_ble_eq_true rfl) (by omega) (Nat.le_of_ble_eq_true rfl) (Nat.le_of_ble_eq_true rfl) (Or.inl (fun _ _ _ q => ZN q)) (fun r9 G2 n9 q9 => ?_)
            obtain ⟨rfl, q9n, hS, fr8⟩ := q9
            have q9n := q9n.symm
            subst q9n
            have h_47 := (fr8 47 (by decide)).trans h_47
            have h_48 := (fr8 48 (by decide)).trans h_48
            have h_49 := (fr8 49 (by decide)).trans h_49
            have h_58 := (fr8 58 (by decide)).trans h_58
            have h_66 := (fr8 66 (by decide)).trans h_66
            have h_67 := (fr8 67 (by decide)).trans h_67
            have h_68 := (fr8 68 (by decide)).trans h_68
            have h_73 := (fr8 73 (by decide)).trans h_73
            have nA := nA.fr fr8 (by decide) (by decide)
            have nB := nB.fr fr8 (by decide) (by decide)
            have nL := nL.fr fr8 (by decide) (by decide)
            have nR := nR.fr fr8 (by decide) (by decide)
            have nP := nP.fr fr8 (by decide) (by decide)
            have nS := nS.fr fr8 (by decide) (by decide)
            have nN := nN.fr fr8 (by decide) (by decide)
            have nD := nD.fr fr8 (by decide) (by decide)
            have nLo := nLo.fr fr8 (by decide) (by decide)
            have nUp := nUp.fr fr8 (by decide) (by decide)
            have hq := hq.fr fr8 (by decide)
            have fr := fr.tr fr8 (by decide)
            refine v_aload_n dX11_order_78 rfl ?_
            refine v_aload_n dX11_order_79 rfl ?_
            refine v_get fX11_134 dX11_order_80 h_47 (by decide) rfl ?_
            refine v_iload_n dX11_order_83 rfl ?_
            refine v_iconst (iI 1) dX11_order_84 rfl ?_
            refine v_cV (av := [.ref 59, .int (iI (a1:Nat)), .int (iI 1)]) (st := []) zyX11_gatherOne lX11_220 h_47 rfl (p_gatherOne (d := 3) h_47 h_48 h_49 hPL h1 x1 hS nP nS (by unfold gne; decide) (Or.inl rfl) (by decide) (by decide)) dX11_order_85 rfl rfl (Nat.le_of_ble_eq_true rfl) (by omega) (Nat.le_of_ble_eq_true rfl) (Nat.le_of_ble_eq_true rfl) (Or.inl (fun _ _ _ q => ZN q)) (fun r9 G3 n9 q9 => ?_)
            obtain ⟨rfl, q9n, ⟨v1, v2, v3, h_47⟩, hS, nP, nS, fr7⟩ := q9
            have q9n := q9n.symm
            subst q9n
            have h_48 := (fr7 48 (by decide)).trans h_48
            have h_49 := (fr7 49 (by decide)).trans h_49
            have h_58 := (fr7 58 (by decide)).trans h_58
            have h_66 := (fr7 66 (by decide)).trans h_66
            have h_67 := (fr7 67 (by decide)).trans h_67
            have h_68 := (fr7 68 (by decide)).trans h_68
            have h_73 := (fr7 73 (by decide)).trans h_73
            have nA := nA.fr fr7 (by decide) (by decide)
            have nB := nB.fr fr7 (by decide) (by decide)
            have nL := nL.fr fr7 (by decide) (by decide)
            have nR := nR.fr fr7 (by decide) (by decide)
            have nN := nN.fr fr7 (by decide) (by decide)
            have nD := nD.fr fr7 (by decide) (by decide)
            have nLo := nLo.fr fr7 (by decide) (by decide)
            have nUp := nUp.fr fr7 (by decide) (by decide)
            have hq := hq.fr fr7 (by decide)
            have fr := fr.tr fr7 (by decide)
            refine v_aload_n dX11_order_88 rfl ?_
            refine v_aload_n dX11_order_89 rfl ?_
            refine v_get fX11_134 dX11_order_90 h_47 (by decide) rfl ?_
            refine v_iload_n dX11_order_93 rfl ?_
            refine v_iconst (iI (-1)) dX11_order_94 rfl ?_
            refine v_cV (av := [.ref 59, .int (iI (a2:Nat)), .int (iI (-1))]) (st := []) zyX11_gatherOne lX11_220 h_47 rfl (p_gatherOne (d := 3) h_47 h_48 h_49 hPL h2 x2 hS nP nS (by unfold gne; decide) (Or.inr rfl) (by omega) (by decide)) dX11_order_95 rfl rfl (Nat.le_of_ble_eq_true rfl) (by omega) (Nat.le_of_ble_eq_true rfl) (Nat.le_of_ble_eq_true rfl) (Or.inl (fun _ _ _ q => ZN q)) (fun r9 G4 n9 q9 => ?_)
            obtain ⟨rfl, q9n, ⟨v4, v5, v6, h_47⟩, hS, nP, nS, fr6⟩ := q9
            have q9n := q9n.symm
            subst q9n
            have h_48 := (fr6 48 (by decide)).trans h_48
            have h_49 := (fr6 49 (by decide)).trans h_49
            have h_58 := (fr6 58 (by decide)).trans h_58
            have h_66 := (fr6 66 (by decide)).trans h_66
            have h_67 := (fr6 67 (by decide)).trans h_67
            have h_68 := (fr6 68 (by decide)).trans h_68
            have h_73 := (fr6 73 (by decide)).trans h_73
            have nA := nA.fr fr6 (by decide) (by decide)
            have nB := nB.fr fr6 (by decide) (by decide)
            have nL := nL.fr fr6 (by decide) (by decide)
            have nR := nR.fr fr6 (by decide) (by decide)
            have nN := nN.fr fr6 (by decide) (by decide)
            have nD := nD.fr fr6 (by decide) (by decide)
            have nLo := nLo.fr fr6 (by decide) (by decide)
            have nUp := nUp.fr fr6 (by decide) (by decide)
            have hq := hq.fr fr6 (by decide)
            have fr := fr.tr fr6 (by decide)
            obtain ⟨h_59, -⟩ := id hS
            refine v_aload_n dX11_order_98 rfl ?_
            refine v_get fX11_134 dX11_order_99 h_47 (by decide) rfl ?_
            refine v_getN fX11_94 dX11_order_102 h_59 (by decide) rfl ?_
            exact v_iret dX11_order_105 trivial (Nat.le_of_ble_eq_true rfl) (Nat.le_of_ble_eq_true rfl) ⟨by unfold mor; rw [if_neg (fun z => z.elim x1 x2)]; rfl, rfl, ⟨_, _, _, _, _, _, _, _, _, _, _, _, h_47, h_48, h_49, ⟨nA, nB, nL, nR, nP, nS, nN, nD, nLo, nUp⟩, h_58, ⟨_, _, hS⟩, hq, h_66, ⟨_, h_67, hbb, htx⟩, ⟨_, h_68⟩, ⟨_, h_73⟩⟩, fr⟩
          · exact nar (Or.inr (of_decide_eq_true x2))
      · exact absurd c1 (by decide)
