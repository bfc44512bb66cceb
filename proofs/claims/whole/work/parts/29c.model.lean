/-! The reference: roots, powers, quotients, ratios, takings -/
theorem isW_n {a : Nat} (h : 3 ≤ a ∧ a ≤ 32) : isW (a : Int) = true := decide_eq_true (by omega)
theorem p_isPlaceT {d n a : Nat} {h : zH} (ha : a < 32) :
    zM yX11_isPlace cX11_isPlace 1 (some .boolean) d 0 0 [.int (iI (a:Nat))] h n (fun r h' n' => r = some (.int (iI (bz true))) ∧ n' = n ∧ h' = h) := by
  have := p_isPlace (d := d) (n := n) (p := a) (h := h) (by omega)
  rw [show decide (0 ≤ (a : Int) ∧ (a : Int) < 32) = true from isP_n ha] at this
  exact this
theorem p_isWidthT {d n a : Nat} {h : zH} (ha : 3 ≤ a ∧ a ≤ 32) :
    zM yX11_isWidth cX11_isWidth 1 (some .boolean) d 0 0 [.int (iI (a:Nat))] h n (fun r h' n' => r = some (.int (iI (bz true))) ∧ n' = n ∧ h' = h) := by
  have := p_isWidth (d := d) (n := n) (p := a) (h := h) (by omega)
  rw [show decide (3 ≤ (a : Int) ∧ (a : Int) ≤ 32) = true from isW_n ha] at this
  exact this
theorem p_goesT {d n : Nat} {vs vm ve sg e rt th tp wr at9 sz dg pw tn fm : Int} {h : zH} (h_47 : h 47 = oModel vs vm ve sg e rt th tp wr at9 sz dg pw tn fm) :
    zM yX11_goes cX11_goes 3 (some .boolean) d 0 0 [.ref 47, .int (iI (bz true)), .int (iI (bz true))] h n (fun r h' n' => r = some (.int (iI (bz true))) ∧ n' = n ∧ h' 47 = oModel vs vm ve sg e rt 0 tp wr at9 sz dg pw tn fm ∧ zFr [47] h h') := by
  exact p_goes h_47
/-- a rounding of nothing doesn't ask -/
theorem rd_c {s : Int} {C C' : Nat → Nat → Int} {n : Nat} (h : s ≠ 0 → C = C') : rdR s C n = rdR s C' n := by
  unfold rdR
  by_cases z : s = 0
  · rw [if_pos z, if_pos z]
  · rw [h z]
set_option maxHeartbeats 8000000 in
set_option maxRecDepth 100000 in
theorem p_Mrootx {d n tc : Nat} {wd pt tf : Nat → Nat} {Q : Nat → Int} {qn : Nat → Bool} {L : List Nat} {th p k r : Int} {h : zH} (hM : MD h wd pt Q qn tf tc L th) (hr_p : -2147483648 ≤ p ∧ p < 2147483648) (hr_k : -2147483648 ≤ k ∧ k < 2147483648) (hr_r : -2147483648 ≤ r ∧ r < 2147483648) (hx : ((isP p && isP r) && (decide (1 ≤ k ∧ k ≤ 8))) = false) (hd : 2 ≤ d) :
    zM yX11_root cX11_root 4 none d 0 0 [.ref 47, .int (iI p), .int (iI k), .int (iI r)] h n (fun r9 h' n' => r9 = none ∧ n' = n ∧ MD h' wd pt Q qn tf tc L (thr (isP p && isP r) (decide (1 ≤ k ∧ k ≤ 8))) ∧ zFr MOL h h') := by
  obtain ⟨vs, vm, ve, sg, e, rt, at9, sz, dg, pw, tn, fm, h_47, h_48, h_49, ⟨nA, nB, nL, nR, nP, nS, nN, nD, nLo, nUp⟩, h_58, ⟨Q0, n0, hS⟩, hq, h_66, ⟨tx, h_67, hbb, htx⟩, ⟨fg, h_68⟩, ⟨fw, h_73⟩⟩ := id hM
  refine zM_of zyX11_root rfl (Nat.le_of_ble_eq_true rfl) (fun X hX => ?_)
  have fr : zFr MOL h h := zFr.rf
  have fin : ∀ b1 b2 : Bool, b1 = (isP p && isP r) → b2 = (decide (1 ≤ k ∧ k ≤ 8)) → (zV X (fun r9 h' n' => r9 = none ∧ n' = n ∧ MD h' wd pt Q qn tf tc L (thr (isP p && isP r) (decide (1 ≤ k ∧ k ≤ 8))) ∧ zFr MOL h h') cX11_root 4 RX11 none d 0 0 36 [(0, .ref 47), (1, .int (iI p)), (2, .int (iI k)), (3, .int (iI r))] [.int (iI (bz b2)), .int (iI (bz b1)), .ref 47] h n 0 0) := by
    intro b1 b2 e1 e2
    rw [← e1, ← e2]
    rw [← e1, ← e2] at hx
    refine v_cV (av := [.int (iI (bz b1)), .int (iI (bz b2))]) (st := []) zyX11_goes lX11_172 h_47 rfl (p_goes (d := 1) h_47) dX11_root_36 rfl rfl (Nat.le_of_ble_eq_true rfl) (by omega) (Nat.le_of_ble_eq_true rfl) (Nat.le_of_ble_eq_true rfl) (Or.inl (fun _ _ _ q => ZN q)) (fun r9 G1 n9 q9 => ?_)
    obtain ⟨rfl, q9n, h_47, fr9⟩ := q9
    have q9n := q9n.symm
    subst q9n
    have h_48 := (fr9 48 (by decide)).trans h_48
    have h_49 := (fr9 49 (by decide)).trans h_49
    have h_58 := (fr9 58 (by decide)).trans h_58
    have h_66 := (fr9 66 (by decide)).trans h_66
    have h_67 := (fr9 67 (by decide)).trans h_67
    have h_68 := (fr9 68 (by decide)).trans h_68
    have h_73 := (fr9 73 (by decide)).trans h_73
    have nA := nA.fr fr9 (by decide) (by decide)
    have nB := nB.fr fr9 (by decide) (by decide)
    have nL := nL.fr fr9 (by decide) (by decide)
    have nR := nR.fr fr9 (by decide) (by decide)
    have nP := nP.fr fr9 (by decide) (by decide)
    have nS := nS.fr fr9 (by decide) (by decide)
    have nN := nN.fr fr9 (by decide) (by decide)
    have nD := nD.fr fr9 (by decide) (by decide)
    have nLo := nLo.fr fr9 (by decide) (by decide)
    have nUp := nUp.fr fr9 (by decide) (by decide)
    have hS := hS.fr fr9 (by decide) (by decide) (by decide)
    have hq := hq.fr fr9 (by decide)
    have fr := fr.tr fr9 (by decide)
    refine w_ifb_ne 43 dX11_root_39 (by decide) (fun c1 => ?_) (fun c1 => ?_)
    · rw [hx] at c1; exact absurd c1 (by decide)
    · skip
      exact v_vret dX11_root_42 trivial (Nat.le_of_ble_eq_true rfl) (Nat.le_of_ble_eq_true rfl) ⟨rfl, rfl, ⟨_, _, _, _, _, _, _, _, _, _, _, _, h_47, h_48, h_49, ⟨nA, nB, nL, nR, nP, nS, nN, nD, nLo, nUp⟩, h_58, ⟨_, _, hS⟩, hq, h_66, ⟨_, h_67, hbb, htx⟩, ⟨_, h_68⟩, ⟨_, h_73⟩⟩, fr⟩
  have j20 : ∀ b1 : Bool, b1 = (isP p && isP r) → (zV X (fun r9 h' n' => r9 = none ∧ n' = n ∧ MD h' wd pt Q qn tf tc L (thr (isP p && isP r) (decide (1 ≤ k ∧ k ≤ 8))) ∧ zFr MOL h h') cX11_root 4 RX11 none d 0 0 20 [(0, .ref 47), (1, .int (iI p)), (2, .int (iI k)), (3, .int (iI r))] [.int (iI (bz b1)), .ref 47] h n 0 0) := by
    intro b1 e1
    refine v_iload_n dX11_root_20 rfl ?_
    refine v_iconst (iI 1) dX11_root_21 rfl ?_
    refine w_icmp_lt 35 dX11_root_22 (by decide) (by omega) (by decide) (fun c1 => ?_) (fun c1 => ?_)
    · skip
      refine v_iconst (iI 0) dX11_root_35 rfl ?_
      refine w_ei (bz false) rfl ?_
      exact fin b1 false e1 (decide_eq_false (by omega)).symm
    · skip
      refine v_iload_n dX11_root_25 rfl ?_
      refine v_bipush (iI 8) dX11_root_26 rfl ?_
      refine w_icmp_gt 35 dX11_root_28 (by decide) (by omega) (by decide) (fun c2 => ?_) (fun c2 => ?_)
      · skip
        refine v_iconst (iI 0) dX11_root_35 rfl ?_
        refine w_ei (bz false) rfl ?_
        exact fin b1 false e1 (decide_eq_false (by omega)).symm
      · skip
        refine v_iconst (iI 1) dX11_root_31 rfl ?_
        refine v_goto 36 dX11_root_32 (by decide) ?_
        refine w_ei (bz true) rfl ?_
        exact fin b1 true e1 (decide_eq_true (by omega)).symm
  refine v_aload_n dX11_root_0 rfl ?_
  refine v_iload_n dX11_root_1 rfl ?_
  refine v_cS (av := [.int (iI p)]) (st := [.ref 47]) zyX11_isPlace lX11_165 (p_isPlace (d := 1) hr_p) dX11_root_2 rfl rfl (Nat.le_of_ble_eq_true rfl) (by omega) (Nat.le_of_ble_eq_true rfl) (Nat.le_of_ble_eq_true rfl) (Or.inl (fun _ _ _ q => ZN q)) (fun r9 K1 n9 q9 => ?_)
  obtain ⟨rfl, q9n, q9h⟩ := q9
  have q9n := q9n.symm
  subst q9n
  have q9h := q9h.symm
  subst q9h
  refine w_ei (bz (isP p)) rfl ?_
  refine w_ifb_eq 19 dX11_root_5 (by decide) (fun c1 => ?_) (fun c1 => ?_)
  · skip
    refine v_iconst (iI 0) dX11_root_19 rfl ?_
    refine w_ei (bz false) rfl ?_
    exact j20 false (by rw [c1]; rfl)
  · skip
    refine v_iload_n dX11_root_8 rfl ?_
    refine v_cS (av := [.int (iI r)]) (st := [.ref 47]) zyX11_isPlace lX11_165 (p_isPlace (d := 1) hr_r) dX11_root_9 rfl rfl (Nat.le_of_ble_eq_true rfl) (by omega) (Nat.le_of_ble_eq_true rfl) (Nat.le_of_ble_eq_true rfl) (Or.inl (fun _ _ _ q => ZN q)) (fun r9 K2 n9 q9 => ?_)
    obtain ⟨rfl, q9n, q9h⟩ := q9
    have q9n := q9n.symm
    subst q9n
    have q9h := q9h.symm
    subst q9h
    refine w_ei (bz (isP r)) rfl ?_
    refine w_ifb_eq 19 dX11_root_12 (by decide) (fun c2 => ?_) (fun c2 => ?_)
    · skip
      refine v_iconst (iI 0) dX11_root_19 rfl ?_
      refine w_ei (bz false) rfl ?_
      exact j20 false (by rw [c1, c2]; rfl)
    · skip
      refine v_iconst (iI 1) dX11_root_15 rfl ?_
      refine v_goto 20 dX11_root_16 (by decide) ?_
      refine w_ei (bz true) rfl ?_
      exact j20 true (by rw [c1, c2]; rfl)
set_option maxHeartbeats 8000000 in
set_option maxRecDepth 100000 in
theorem p_Mpowerx {d n tc : Nat} {wd pt tf : Nat → Nat} {Q : Nat → Int} {qn : Nat → Bool} {L : List Nat} {th p k r : Int} {h : zH} (hM : MD h wd pt Q qn tf tc L th) (hr_p : -2147483648 ≤ p ∧ p < 2147483648) (hr_k : -2147483648 ≤ k ∧ k < 2147483648) (hr_r : -2147483648 ≤ r ∧ r < 2147483648) (hx : ((isP p && isP r) && (decide (-16 ≤ k ∧ k ≤ 16))) = false) (hd : 2 ≤ d) :
    zM yX11_power cX11_power 7 none d 0 0 [.ref 47, .int (iI p), .int (iI k), .int (iI r)] h n (fun r9 h' n' => r9 = none ∧ n' = n ∧ MD h' wd pt Q qn tf tc L (thr (isP p && isP r) (decide (-16 ≤ k ∧ k ≤ 16))) ∧ zFr MOL h h') := by
  obtain ⟨vs, vm, ve, sg, e, rt, at9, sz, dg, pw, tn, fm, h_47, h_48, h_49, ⟨nA, nB, nL, nR, nP, nS, nN, nD, nLo, nUp⟩, h_58, ⟨Q0, n0, hS⟩, hq, h_66, ⟨tx, h_67, hbb, htx⟩, ⟨fg, h_68⟩, ⟨fw, h_73⟩⟩ := id hM
  refine zM_of zyX11_power rfl (Nat.le_of_ble_eq_true rfl) (fun X hX => ?_)
  have fr : zFr MOL h h := zFr.rf
  have fin : ∀ b1 b2 : Bool, b1 = (isP p && isP r) → b2 = (decide (-16 ≤ k ∧ k ≤ 16)) → (zV X (fun r9 h' n' => r9 = none ∧ n' = n ∧ MD h' wd pt Q qn tf tc L (thr (isP p && isP r) (decide (-16 ≤ k ∧ k ≤ 16))) ∧ zFr MOL h h') cX11_power 7 RX11 none d 0 0 37 [(0, .ref 47), (1, .int (iI p)), (2, .int (iI k)), (3, .int (iI r))] [.int (iI (bz b2)), .int (iI (bz b1)), .ref 47] h n 0 0) := by
    intro b1 b2 e1 e2
    rw [← e1, ← e2]
    rw [← e1, ← e2] at hx
    refine v_cV (av := [.int (iI (bz b1)), .int (iI (bz b2))]) (st := []) zyX11_goes lX11_172 h_47 rfl (p_goes (d := 1) h_47) dX11_power_37 rfl rfl (Nat.le_of_ble_eq_true rfl) (by omega) (Nat.le_of_ble_eq_true rfl) (Nat.le_of_ble_eq_true rfl) (Or.inl (fun _ _ _ q => ZN q)) (fun r9 G1 n9 q9 => ?_)
    obtain ⟨rfl, q9n, h_47, fr9⟩ := q9
    have q9n := q9n.symm
    subst q9n
    have h_48 := (fr9 48 (by decide)).trans h_48
    have h_49 := (fr9 49 (by decide)).trans h_49
    have h_58 := (fr9 58 (by decide)).trans h_58
    have h_66 := (fr9 66 (by decide)).trans h_66
    have h_67 := (fr9 67 (by decide)).trans h_67
    have h_68 := (fr9 68 (by decide)).trans h_68
    have h_73 := (fr9 73 (by decide)).trans h_73
    have nA := nA.fr fr9 (by decide) (by decide)
    have nB := nB.fr fr9 (by decide) (by decide)
    have nL := nL.fr fr9 (by decide) (by decide)
    have nR := nR.fr fr9 (by decide) (by decide)
    have nP := nP.fr fr9 (by decide) (by decide)
    have nS := nS.fr fr9 (by decide) (by decide)
    have nN := nN.fr fr9 (by decide) (by decide)
    have nD := nD.fr fr9 (by decide) (by decide)
    have nLo := nLo.fr fr9 (by decide) (by decide)
    have nUp := nUp.fr fr9 (by decide) (by decide)
    have hS := hS.fr fr9 (by decide) (by decide) (by decide)
    have hq := hq.fr fr9 (by decide)
    have fr := fr.tr fr9 (by decide)
    refine w_ifb_ne 44 dX11_power_40 (by decide) (fun c1 => ?_) (fun c1 => ?_)
    · rw [hx] at c1; exact absurd c1 (by decide)
    · skip
      exact v_vret dX11_power_43 trivial (Nat.le_of_ble_eq_true rfl) (Nat.le_of_ble_eq_true rfl) ⟨rfl, rfl, ⟨_, _, _, _, _, _, _, _, _, _, _, _, h_47, h_48, h_49, ⟨nA, nB, nL, nR, nP, nS, nN, nD, nLo, nUp⟩, h_58, ⟨_, _, hS⟩, hq, h_66, ⟨_, h_67, hbb, htx⟩, ⟨_, h_68⟩, ⟨_, h_73⟩⟩, fr⟩
  have j20 : ∀ b1 : Bool, b1 = (isP p && isP r) → (zV X (fun r9 h' n' => r9 = none ∧ n' = n ∧ MD h' wd pt Q qn tf tc L (thr (isP p && isP r) (decide (-16 ≤ k ∧ k ≤ 16))) ∧ zFr MOL h h') cX11_power 7 RX11 none d 0 0 20 [(0, .ref 47), (1, .int (iI p)), (2, .int (iI k)), (3, .int (iI r))] [.int (iI (bz b1)), .ref 47] h n 0 0) := by
    intro b1 e1
    refine v_iload_n dX11_power_20 rfl ?_
    refine v_bipush (iI (-16)) dX11_power_21 rfl ?_
    refine w_icmp_lt 36 dX11_power_23 (by decide) (by omega) (by decide) (fun c1 => ?_) (fun c1 => ?_)
    · skip
      refine v_iconst (iI 0) dX11_power_36 rfl ?_
      refine w_ei (bz false) rfl ?_
      exact fin b1 false e1 (decide_eq_false (by omega)).symm
    · skip
      refine v_iload_n dX11_power_26 rfl ?_
      refine v_bipush (iI 16) dX11_power_27 rfl ?_
      refine w_icmp_gt 36 dX11_power_29 (by decide) (by omega) (by decide) (fun c2 => ?_) (fun c2 => ?_)
      · skip
        refine v_iconst (iI 0) dX11_power_36 rfl ?_
        refine w_ei (bz false) rfl ?_
        exact fin b1 false e1 (decide_eq_false (by omega)).symm
      · skip
        refine v_iconst (iI 1) dX11_power_32 rfl ?_
        refine v_goto 37 dX11_power_33 (by decide) ?_
        refine w_ei (bz true) rfl ?_
        exact fin b1 true e1 (decide_eq_true (by omega)).symm
  refine v_aload_n dX11_power_0 rfl ?_
  refine v_iload_n dX11_power_1 rfl ?_
  refine v_cS (av := [.int (iI p)]) (st := [.ref 47]) zyX11_isPlace lX11_165 (p_isPlace (d := 1) hr_p) dX11_power_2 rfl rfl (Nat.le_of_ble_eq_true rfl) (by omega) (Nat.le_of_ble_eq_true rfl) (Nat.le_of_ble_eq_true rfl) (Or.inl (fun _ _ _ q => ZN q)) (fun r9 K1 n9 q9 => ?_)
  obtain ⟨rfl, q9n, q9h⟩ := q9
  have q9n := q9n.symm
  subst q9n
  have q9h := q9h.symm
  subst q9h
  refine w_ei (bz (isP p)) rfl ?_
  refine w_ifb_eq 19 dX11_power_5 (by decide) (fun c1 => ?_) (fun c1 => ?_)
  · skip
    refine v_iconst (iI 0) dX11_power_19 rfl ?_
    refine w_ei (bz false) rfl ?_
    exact j20 false (by rw [c1]; rfl)
  · skip
    refine v_iload_n dX11_power_8 rfl ?_
    refine v_cS (av := [.int (iI r)]) (st := [.ref 47]) zyX11_isPlace lX11_165 (p_isPlace (d := 1) hr_r) dX11_power_9 rfl rfl (Nat.le_of_ble_eq_true rfl) (by omega) (Nat.le_of_ble_eq_true rfl) (Nat.le_of_ble_eq_true rfl) (Or.inl (fun _ _ _ q => ZN q)) (fun r9 K2 n9 q9 => ?_)
    obtain ⟨rfl, q9n, q9h⟩ := q9
    have q9n := q9n.symm
    subst q9n
    have q9h := q9h.symm
    subst q9h
    refine w_ei (bz (isP r)) rfl ?_
    refine w_ifb_eq 19 dX11_power_12 (by decide) (fun c2 => ?_) (fun c2 => ?_)
    · skip
      refine v_iconst (iI 0) dX11_power_19 rfl ?_
      refine w_ei (bz false) rfl ?_
      exact j20 false (by rw [c1, c2]; rfl)
    · skip
      refine v_iconst (iI 1) dX11_power_15 rfl ?_
      refine v_goto 20 dX11_power_16 (by decide) ?_
      refine w_ei (bz true) rfl ?_
      exact j20 true (by rw [c1, c2]; rfl)
set_option maxHeartbeats 8000000 in
set_option maxRecDepth 100000 in
theorem p_Munderx {d n tc : Nat} {wd pt tf : Nat → Nat} {Q : Nat → Int} {qn : Nat → Bool} {L : List Nat} {th p r : Int} {h : zH} (hM : MD h wd pt Q qn tf tc L th) (hr_p : -2147483648 ≤ p ∧ p < 2147483648) (hr_r : -2147483648 ≤ r ∧ r < 2147483648) (hx : ((isP p && isP r) && true) = false) (hd : 2 ≤ d) :
    zM yX11_under cX11_under 3 none d 0 0 [.ref 47, .int (iI p), .int (iI r)] h n (fun r9 h' n' => r9 = none ∧ n' = n ∧ MD h' wd pt Q qn tf tc L (thr (isP p && isP r) true) ∧ zFr MOL h h') := by
  obtain ⟨vs, vm, ve, sg, e, rt, at9, sz, dg, pw, tn, fm, h_47, h_48, h_49, ⟨nA, nB, nL, nR, nP, nS, nN, nD, nLo, nUp⟩, h_58, ⟨Q0, n0, hS⟩, hq, h_66, ⟨tx, h_67, hbb, htx⟩, ⟨fg, h_68⟩, ⟨fw, h_73⟩⟩ := id hM
  refine zM_of zyX11_under rfl (Nat.le_of_ble_eq_true rfl) (fun X hX => ?_)
  have fr : zFr MOL h h := zFr.rf
  have fin : ∀ b1 b2 : Bool, b1 = (isP p && isP r) → b2 = true → (zV X (fun r9 h' n' => r9 = none ∧ n' = n ∧ MD h' wd pt Q qn tf tc L (thr (isP p && isP r) true) ∧ zFr MOL h h') cX11_under 3 RX11 none d 0 0 21 [(0, .ref 47), (1, .int (iI p)), (2, .int (iI r))] [.int (iI (bz b2)), .int (iI (bz b1)), .ref 47] h n 0 0) := by
    intro b1 b2 e1 e2
    rw [← e1, ← e2]
    rw [← e1, ← e2] at hx
    refine v_cV (av := [.int (iI (bz b1)), .int (iI (bz b2))]) (st := []) zyX11_goes lX11_172 h_47 rfl (p_goes (d := 1) h_47) dX11_under_21 rfl rfl (Nat.le_of_ble_eq_true rfl) (by omega) (Nat.le_of_ble_eq_true rfl) (Nat.le_of_ble_eq_true rfl) (Or.inl (fun _ _ _ q => ZN q)) (fun r9 G1 n9 q9 => ?_)
    obtain ⟨rfl, q9n, h_47, fr9⟩ := q9
    have q9n := q9n.symm
    subst q9n
    have h_48 := (fr9 48 (by decide)).trans h_48
    have h_49 := (fr9 49 (by decide)).trans h_49
    have h_58 := (fr9 58 (by decide)).trans h_58
    have h_66 := (fr9 66 (by decide)).trans h_66
    have h_67 := (fr9 67 (by decide)).trans h_67
    have h_68 := (fr9 68 (by decide)).trans h_68
    have h_73 := (fr9 73 (by decide)).trans h_73
    have nA := nA.fr fr9 (by decide) (by decide)
    have nB := nB.fr fr9 (by decide) (by decide)
    have nL := nL.fr fr9 (by decide) (by decide)
    have nR := nR.fr fr9 (by decide) (by decide)
    have nP := nP.fr fr9 (by decide) (by decide)
    have nS := nS.fr fr9 (by decide) (by decide)
    have nN := nN.fr fr9 (by decide) (by decide)
    have nD := nD.fr fr9 (by decide) (by decide)
    have nLo := nLo.fr fr9 (by decide) (by decide)
    have nUp := nUp.fr fr9 (by decide) (by decide)
    have hS := hS.fr fr9 (by decide) (by decide) (by decide)
    have hq := hq.fr fr9 (by decide)
    have fr := fr.tr fr9 (by decide)
    refine w_ifb_ne 28 dX11_under_24 (by decide) (fun c1 => ?_) (fun c1 => ?_)
    · rw [hx] at c1; exact absurd c1 (by decide)
    · skip
      exact v_vret dX11_under_27 trivial (Nat.le_of_ble_eq_true rfl) (Nat.le_of_ble_eq_true rfl) ⟨rfl, rfl, ⟨_, _, _, _, _, _, _, _, _, _, _, _, h_47, h_48, h_49, ⟨nA, nB, nL, nR, nP, nS, nN, nD, nLo, nUp⟩, h_58, ⟨_, _, hS⟩, hq, h_66, ⟨_, h_67, hbb, htx⟩, ⟨_, h_68⟩, ⟨_, h_73⟩⟩, fr⟩
  have j20 : ∀ b1 : Bool, b1 = (isP p && isP r) → (zV X (fun r9 h' n' => r9 = none ∧ n' = n ∧ MD h' wd pt Q qn tf tc L (thr (isP p && isP r) true) ∧ zFr MOL h h') cX11_under 3 RX11 none d 0 0 20 [(0, .ref 47), (1, .int (iI p)), (2, .int (iI r))] [.int (iI (bz b1)), .ref 47] h n 0 0) := by
    intro b1 e1
    refine v_iconst (iI 1) dX11_under_20 rfl ?_
    refine w_ei (bz true) rfl ?_
    exact fin b1 true e1 rfl
  refine v_aload_n dX11_under_0 rfl ?_
  refine v_iload_n dX11_under_1 rfl ?_
  refine v_cS (av := [.int (iI p)]) (st := [.ref 47]) zyX11_isPlace lX11_165 (p_isPlace (d := 1) hr_p) dX11_under_2 rfl rfl (Nat.le_of_ble_eq_true rfl) (by omega) (Nat.le_of_ble_eq_true rfl) (Nat.le_of_ble_eq_true rfl) (Or.inl (fun _ _ _ q => ZN q)) (fun r9 K1 n9 q9 => ?_)
  obtain ⟨rfl, q9n, q9h⟩ := q9
  have q9n := q9n.symm
  subst q9n
  have q9h := q9h.symm
  subst q9h
  refine w_ei (bz (isP p)) rfl ?_
  refine w_ifb_eq 19 dX11_under_5 (by decide) (fun c1 => ?_) (fun c1 => ?_)
  · skip
    refine v_iconst (iI 0) dX11_under_19 rfl ?_
    refine w_ei (bz false) rfl ?_
    exact j20 false (by rw [c1]; rfl)
  · skip
    refine v_iload_n dX11_under_8 rfl ?_
    refine v_cS (av := [.int (iI r)]) (st := [.ref 47]) zyX11_isPlace lX11_165 (p_isPlace (d := 1) hr_r) dX11_under_9 rfl rfl (Nat.le_of_ble_eq_true rfl) (by omega) (Nat.le_of_ble_eq_true rfl) (Nat.le_of_ble_eq_true rfl) (Or.inl (fun _ _ _ q => ZN q)) (fun r9 K2 n9 q9 => ?_)
    obtain ⟨rfl, q9n, q9h⟩ := q9
    have q9n := q9n.symm
    subst q9n
    have q9h := q9h.symm
    subst q9h
    refine w_ei (bz (isP r)) rfl ?_
    refine w_ifb_eq 19 dX11_under_12 (by decide) (fun c2 => ?_) (fun c2 => ?_)
    · skip
      refine v_iconst (iI 0) dX11_under_19 rfl ?_
      refine w_ei (bz false) rfl ?_
      exact j20 false (by rw [c1, c2]; rfl)
    · skip
      refine v_iconst (iI 1) dX11_under_15 rfl ?_
      refine v_goto 20 dX11_under_16 (by decide) ?_
      refine w_ei (bz true) rfl ?_
      exact j20 true (by rw [c1, c2]; rfl)
set_option maxHeartbeats 8000000 in
set_option maxRecDepth 100000 in
theorem p_Mtakex {d n tc : Nat} {wd pt tf : Nat → Nat} {Q : Nat → Int} {qn : Nat → Bool} {L : List Nat} {th p r w : Int} {h : zH} (hM : MD h wd pt Q qn tf tc L th) (hr_p : -2147483648 ≤ p ∧ p < 2147483648) (hr_r : -2147483648 ≤ r ∧ r < 2147483648) (hr_w : -2147483648 ≤ w ∧ w < 2147483648) (hx : ((isP p && isP r) && (isW w)) = false) (hd : 2 ≤ d) :
    zM yX11_take cX11_take 5 none d 0 0 [.ref 47, .int (iI p), .int (iI r), .int (iI w)] h n (fun r9 h' n' => r9 = none ∧ n' = n ∧ MD h' wd pt Q qn tf tc L (thr (isP p && isP r) (isW w)) ∧ zFr MOL h h') := by
  obtain ⟨vs, vm, ve, sg, e, rt, at9, sz, dg, pw, tn, fm, h_47, h_48, h_49, ⟨nA, nB, nL, nR, nP, nS, nN, nD, nLo, nUp⟩, h_58, ⟨Q0, n0, hS⟩, hq, h_66, ⟨tx, h_67, hbb, htx⟩, ⟨fg, h_68⟩, ⟨fw, h_73⟩⟩ := id hM
  refine zM_of zyX11_take rfl (Nat.le_of_ble_eq_true rfl) (fun X hX => ?_)
  have fr : zFr MOL h h := zFr.rf
  have fin : ∀ b1 b2 : Bool, b1 = (isP p && isP r) → b2 = (isW w) → (zV X (fun r9 h' n' => r9 = none ∧ n' = n ∧ MD h' wd pt Q qn tf tc L (thr (isP p && isP r) (isW w)) ∧ zFr MOL h h') cX11_take 5 RX11 none d 0 0 24 [(0, .ref 47), (1, .int (iI p)), (2, .int (iI r)), (3, .int (iI w))] [.int (iI (bz b2)), .int (iI (bz b1)), .ref 47] h n 0 0) := by
    intro b1 b2 e1 e2
    rw [← e1, ← e2]
    rw [← e1, ← e2] at hx
    refine v_cV (av := [.int (iI (bz b1)), .int (iI (bz b2))]) (st := []) zyX11_goes lX11_172 h_47 rfl (p_goes (d := 1) h_47) dX11_take_24 rfl rfl (Nat.le_of_ble_eq_true rfl) (by omega) (Nat.le_of_ble_eq_true rfl) (Nat.le_of_ble_eq_true rfl) (Or.inl (fun _ _ _ q => ZN q)) (fun r9 G1 n9 q9 => ?_)
    obtain ⟨rfl, q9n, h_47, fr9⟩ := q9
    have q9n := q9n.symm
    subst q9n
    have h_48 := (fr9 48 (by decide)).trans h_48
    have h_49 := (fr9 49 (by decide)).trans h_49
    have h_58 := (fr9 58 (by decide)).trans h_58
    have h_66 := (fr9 66 (by decide)).trans h_66
    have h_67 := (fr9 67 (by decide)).trans h_67
    have h_68 := (fr9 68 (by decide)).trans h_68
    have h_73 := (fr9 73 (by decide)).trans h_73
    have nA := nA.fr fr9 (by decide) (by decide)
    have nB := nB.fr fr9 (by decide) (by decide)
    have nL := nL.fr fr9 (by decide) (by decide)
    have nR := nR.fr fr9 (by decide) (by decide)
    have nP := nP.fr fr9 (by decide) (by decide)
    have nS := nS.fr fr9 (by decide) (by decide)
    have nN := nN.fr fr9 (by decide) (by decide)
    have nD := nD.fr fr9 (by decide) (by decide)
    have nLo := nLo.fr fr9 (by decide) (by decide)
    have nUp := nUp.fr fr9 (by decide) (by decide)
    have hS := hS.fr fr9 (by decide) (by decide) (by decide)
    have hq := hq.fr fr9 (by decide)
    have fr := fr.tr fr9 (by decide)
    refine w_ifb_ne 31 dX11_take_27 (by decide) (fun c1 => ?_) (fun c1 => ?_)
    · rw [hx] at c1; exact absurd c1 (by decide)
    · skip
      exact v_vret dX11_take_30 trivial (Nat.le_of_ble_eq_true rfl) (Nat.le_of_ble_eq_true rfl) ⟨rfl, rfl, ⟨_, _, _, _, _, _, _, _, _, _, _, _, h_47, h_48, h_49, ⟨nA, nB, nL, nR, nP, nS, nN, nD, nLo, nUp⟩, h_58, ⟨_, _, hS⟩, hq, h_66, ⟨_, h_67, hbb, htx⟩, ⟨_, h_68⟩, ⟨_, h_73⟩⟩, fr⟩
  have j20 : ∀ b1 : Bool, b1 = (isP p && isP r) → (zV X (fun r9 h' n' => r9 = none ∧ n' = n ∧ MD h' wd pt Q qn tf tc L (thr (isP p && isP r) (isW w)) ∧ zFr MOL h h') cX11_take 5 RX11 none d 0 0 20 [(0, .ref 47), (1, .int (iI p)), (2, .int (iI r)), (3, .int (iI w))] [.int (iI (bz b1)), .ref 47] h n 0 0) := by
    intro b1 e1
    refine v_iload_n dX11_take_20 rfl ?_
    refine v_cS (av := [.int (iI w)]) (st := [.int (iI (bz b1)), .ref 47]) zyX11_isWidth lX11_169 (p_isWidth (d := 1) hr_w) dX11_take_21 rfl rfl (Nat.le_of_ble_eq_true rfl) (by omega) (Nat.le_of_ble_eq_true rfl) (Nat.le_of_ble_eq_true rfl) (Or.inl (fun _ _ _ q => ZN q)) (fun r9 K1 n9 q9 => ?_)
    obtain ⟨rfl, q9n, q9h⟩ := q9
    have q9n := q9n.symm
    subst q9n
    have q9h := q9h.symm
    subst q9h
    refine w_ei (bz (isW w)) rfl ?_
    exact fin b1 _ e1 rfl
  refine v_aload_n dX11_take_0 rfl ?_
  refine v_iload_n dX11_take_1 rfl ?_
  refine v_cS (av := [.int (iI p)]) (st := [.ref 47]) zyX11_isPlace lX11_165 (p_isPlace (d := 1) hr_p) dX11_take_2 rfl rfl (Nat.le_of_ble_eq_true rfl) (by omega) (Nat.le_of_ble_eq_true rfl) (Nat.le_of_ble_eq_true rfl) (Or.inl (fun _ _ _ q => ZN q)) (fun r9 K1 n9 q9 => ?_)
  obtain ⟨rfl, q9n, q9h⟩ := q9
  have q9n := q9n.symm
  subst q9n
  have q9h := q9h.symm
  subst q9h
  refine w_ei (bz (isP p)) rfl ?_
  refine w_ifb_eq 19 dX11_take_5 (by decide) (fun c1 => ?_) (fun c1 => ?_)
  · skip
    refine v_iconst (iI 0) dX11_take_19 rfl ?_
    refine w_ei (bz false) rfl ?_
    exact j20 false (by rw [c1]; rfl)
  · skip
    refine v_iload_n dX11_take_8 rfl ?_
    refine v_cS (av := [.int (iI r)]) (st := [.ref 47]) zyX11_isPlace lX11_165 (p_isPlace (d := 1) hr_r) dX11_take_9 rfl rfl (Nat.le_of_ble_eq_true rfl) (by omega) (Nat.le_of_ble_eq_true rfl) (Nat.le_of_ble_eq_true rfl) (Or.inl (fun _ _ _ q => ZN q)) (fun r9 K2 n9 q9 => ?_)
    obtain ⟨rfl, q9n, q9h⟩ := q9
    have q9n := q9n.symm
    subst q9n
    have q9h := q9h.symm
    subst q9h
    refine w_ei (bz (isP r)) rfl ?_
    refine w_ifb_eq 19 dX11_take_12 (by decide) (fun c2 => ?_) (fun c2 => ?_)
    · skip
      refine v_iconst (iI 0) dX11_take_19 rfl ?_
      refine w_ei (bz false) rfl ?_
      exact j20 false (by rw [c1, c2]; rfl)
    · skip
      refine v_iconst (iI 1) dX11_take_15 rfl ?_
      refine v_goto 20 dX11_take_16 (by decide) ?_
      refine w_ei (bz true) rfl ?_
      exact j20 true (by rw [c1, c2]; rfl)
noncomputable def mrt (wd pt : Nat → Nat) (a1 k a3 : Nat) : Nat := if pt a1 = 2 ^ (wd a1 - 1) ∨ (pvI (pt a1) (wd a1) < 0 ∧ k % 2 = 0) then 2 ^ (wd a3 - 1) else rdR (sgI (pvI (pt a1) (wd a1))) (CP (pvI (pt a1) (wd a1)).natAbs 1 (-120) k) (wd a3)
set_option maxHeartbeats 8000000 in
set_option maxRecDepth 100000 in
theorem p_Mroot {d n tc a1 a3 k : Nat} {wd pt tf : Nat → Nat} {Q : Nat → Int} {qn : Nat → Bool} {L : List Nat} {th : Int} {h : zH} (hM : MD h wd pt Q qn tf tc L th) (hPL : PL wd pt) (h1 : a1 < 32) (hk : 1 ≤ k ∧ k ≤ 8) (h3 : a3 < 32) (hd : 7 ≤ d) :
    zM yX11_root cX11_root 4 none d 0 0 [.ref 47, .int (iI (a1:Nat)), .int (iI (k:Nat)), .int (iI (a3:Nat))] h n (fun r9 h' n' => r9 = none ∧ n' = n ∧ MD h' wd (zup pt a3 (mrt wd pt a1 k a3)) Q qn tf tc L 0 ∧ zFr MOL h h') := by
  obtain ⟨vs, vm, ve, sg, e, rt, at9, sz, dg, pw, tn, fm, h_47, h_48, h_49, ⟨nA, nB, nL, nR, nP, nS, nN, nD, nLo, nUp⟩, h_58, ⟨Q0, n0, hS⟩, hq, h_66, ⟨tx, h_67, hbb, htx⟩, ⟨fg, h_68⟩, ⟨fw, h_73⟩⟩ := id hM
  have w1 := hPL a1 h1
  have w3 := hPL a3 h3
  refine zM_of zyX11_root rfl (Nat.le_of_ble_eq_true rfl) (fun X hX => ?_)
  have fr : zFr MOL h h := zFr.rf
  have nar51 : ∀ (H : zH), MD H wd pt Q qn tf tc L 0 → zFr MOL h H → (pt a1 = 2 ^ (wd a1 - 1) ∨ (pvI (pt a1) (wd a1) < 0 ∧ k % 2 = 0)) → (zV X (fun r9 h' n' => r9 = none ∧ n' = n ∧ MD h' wd (zup pt a3 (mrt wd pt a1 k a3)) Q qn tf tc L 0 ∧ zFr MOL h h') cX11_root 4 RX11 none d 0 0 51 [(0, .ref 47), (1, .int (iI (a1:Nat))), (2, .int (iI (k:Nat))), (3, .int (iI (a3:Nat)))] [] H n 0 0) := by
    intro H hM fr hn
    obtain ⟨vs, vm, ve, sg, e, rt, at9, sz, dg, pw, tn, fm, h_47, h_48, h_49, ⟨nA, nB, nL, nR, nP, nS, nN, nD, nLo, nUp⟩, h_58, ⟨Q0, n0, hS⟩, hq, h_66, ⟨tx, h_67, hbb, htx⟩, ⟨fg, h_68⟩, ⟨fw, h_73⟩⟩ := id hM
    refine v_aload_n dX11_root_51 rfl ?_
    refine v_iload_n dX11_root_52 rfl ?_
    refine v_cV (av := [.int (iI (a3:Nat))]) (st := []) zyX11_becomeNar lX11_182 h_47 rfl (p_becomeNar (d := 6) h_47 h_48 h_49 h3 ⟨w3.1, w3.2.1⟩) dX11_root_53 rfl rfl (Nat.le_of_ble_eq_true rfl) (by omega) (Nat.le_of_ble_eq_true rfl) (Nat.le_of_ble_eq_true rfl) (Or.inl (fun _ _ _ q => ZN q)) (fun r9 G9 n9 q9 => ?_)
    obtain ⟨rfl, q9n, h_49, fr8⟩ := q9
    have q9n := q9n.symm
    subst q9n
    have h_47 := (fr8 47 (by decide)).trans h_47
    have h_48 := (fr8 48 (by decide)).trans h_48
    have h_58 := (fr8 58 (by decide)).trans h_58
    have h_66 := (fr8 66 (by decide)).trans h_66
    have h_67 := (fr8 67 (by decide)).trans h_67
    have h_68 := (fr8 68 (by decide)).trans h_68
    have h_73 := (fr8 73 (by decide)).trans h_73
    have nA := nA.fr fr8 (by decide) (by decide)
    have nB := nB.fr fr8 (by decide) (by decide)
    have nL := nL.fr fr8 (by decide) (by decide)
    have nR := nR.fr fr8 (by decide) (by decide)
    have nP := nP.fr fr8 (by decide) (by decide)
    have nS := nS.fr fr8 (by decide) (by decide)
    have nN := nN.fr fr8 (by decide) (by decide)
    have nD := nD.fr fr8 (by decide) (by decide)
    have nLo := nLo.fr fr8 (by decide) (by decide)
    have nUp := nUp.fr fr8 (by decide) (by decide)
    have hS := hS.fr fr8 (by decide) (by decide) (by decide)
    have hq := hq.fr fr8 (by decide)
    have fr := fr.tr fr8 (by decide)
    exact v_vret dX11_root_56 trivial (Nat.le_of_ble_eq_true rfl) (Nat.le_of_ble_eq_true rfl) ⟨rfl, rfl, by unfold mrt; rw [if_pos hn]; exact ⟨_, _, _, _, _, _, _, _, _, _, _, _, h_47, h_48, h_49, ⟨nA, nB, nL, nR, nP, nS, nN, nD, nLo, nUp⟩, h_58, ⟨_, _, hS⟩, hq, h_66, ⟨_, h_67, hbb, htx⟩, ⟨_, h_68⟩, ⟨_, h_73⟩⟩, fr⟩
  have nar75 : ∀ (H : zH), MD H wd pt Q qn tf tc L 0 → zFr MOL h H → (pt a1 = 2 ^ (wd a1 - 1) ∨ (pvI (pt a1) (wd a1) < 0 ∧ k % 2 = 0)) → (zV X (fun r9 h' n' => r9 = none ∧ n' = n ∧ MD h' wd (zup pt a3 (mrt wd pt a1 k a3)) Q qn tf tc L 0 ∧ zFr MOL h h') cX11_root 4 RX11 none d 0 0 75 [(0, .ref 47), (1, .int (iI (a1:Nat))), (2, .int (iI (k:Nat))), (3, .int (iI (a3:Nat)))] [] H n 0 0) := by
    intro H hM fr hn
    obtain ⟨vs, vm, ve, sg, e, rt, at9, sz, dg, pw, tn, fm, h_47, h_48, h_49, ⟨nA, nB, nL, nR, nP, nS, nN, nD, nLo, nUp⟩, h_58, ⟨Q0, n0, hS⟩, hq, h_66, ⟨tx, h_67, hbb, htx⟩, ⟨fg, h_68⟩, ⟨fw, h_73⟩⟩ := id hM
    refine v_aload_n dX11_root_75 rfl ?_
    refine v_iload_n dX11_root_76 rfl ?_
    refine v_cV (av := [.int (iI (a3:Nat))]) (st := []) zyX11_becomeNar lX11_182 h_47 rfl (p_becomeNar (d := 6) h_47 h_48 h_49 h3 ⟨w3.1, w3.2.1⟩) dX11_root_77 rfl rfl (Nat.le_of_ble_eq_true rfl) (by omega) (Nat.le_of_ble_eq_true rfl) (Nat.le_of_ble_eq_true rfl) (Or.inl (fun _ _ _ q => ZN q)) (fun r9 G9 n9 q9 => ?_)
    obtain ⟨rfl, q9n, h_49, fr8⟩ := q9
    have q9n := q9n.symm
    subst q9n
    have h_47 := (fr8 47 (by decide)).trans h_47
    have h_48 := (fr8 48 (by decide)).trans h_48
    have h_58 := (fr8 58 (by decide)).trans h_58
    have h_66 := (fr8 66 (by decide)).trans h_66
    have h_67 := (fr8 67 (by decide)).trans h_67
    have h_68 := (fr8 68 (by decide)).trans h_68
    have h_73 := (fr8 73 (by decide)).trans h_73
    have nA := nA.fr fr8 (by decide) (by decide)
    have nB := nB.fr fr8 (by decide) (by decide)
    have nL := nL.fr fr8 (by decide) (by decide)
    have nR := nR.fr fr8 (by decide) (by decide)
    have nP := nP.fr fr8 (by decide) (by decide)
    have nS := nS.fr fr8 (by decide) (by decide)
    have nN := nN.fr fr8 (by decide) (by decide)
    have nD := nD.fr fr8 (by decide) (by decide)
    have nLo := nLo.fr fr8 (by decide) (by decide)
    have nUp := nUp.fr fr8 (by decide) (by decide)
    have hS := hS.fr fr8 (by decide) (by decide) (by decide)
    have hq := hq.fr fr8 (by decide)
    have fr := fr.tr fr8 (by decide)
    exact v_vret dX11_root_80 trivial (Nat.le_of_ble_eq_true rfl) (Nat.le_of_ble_eq_true rfl) ⟨rfl, rfl, by unfold mrt; rw [if_pos hn]; exact ⟨_, _, _, _, _, _, _, _, _, _, _, _, h_47, h_48, h_49, ⟨nA, nB, nL, nR, nP, nS, nN, nD, nLo, nUp⟩, h_58, ⟨_, _, hS⟩, hq, h_66, ⟨_, h_67, hbb, htx⟩, ⟨_, h_68⟩, ⟨_, h_73⟩⟩, fr⟩
  refine v_aload_n dX11_root_0 rfl ?_
  refine v_iload_n dX11_root_1 rfl ?_
  refine v_cS (av := [.int (iI (a1:Nat))]) (st := [.ref 47]) zyX11_isPlace lX11_165 (p_isPlaceT (d := 6) h1) dX11_root_2 rfl rfl (Nat.le_of_ble_eq_true rfl) (by omega) (Nat.le_of_ble_eq_true rfl) (Nat.le_of_ble_eq_true rfl) (Or.inl (fun _ _ _ q => ZN q)) (fun r9 K1 n9 q9 => ?_)
  obtain ⟨rfl, q9n, q9h⟩ := q9
  have q9n := q9n.symm
  subst q9n
  have q9h := q9h.symm
  subst q9h
  refine w_ifb_eq 19 dX11_root_5 (by decide) (fun y1 => ?_) (fun y1 => ?_)
  · exact absurd y1 (by decide)
  · skip
    refine v_iload_n dX11_root_8 rfl ?_
    refine v_cS (av := [.int (iI (a3:Nat))]) (st := [.ref 47]) zyX11_isPlace lX11_165 (p_isPlaceT (d := 6) h3) dX11_root_9 rfl rfl (Nat.le_of_ble_eq_true rfl) (by omega) (Nat.le_of_ble_eq_true rfl) (Nat.le_of_ble_eq_true rfl) (Or.inl (fun _ _ _ q => ZN q)) (fun r9 K2 n9 q9 => ?_)
    obtain ⟨rfl, q9n, q9h⟩ := q9
    have q9n := q9n.symm
    subst q9n
    have q9h := q9h.symm
    subst q9h
    refine w_ifb_eq 19 dX11_root_12 (by decide) (fun y2 => ?_) (fun y2 => ?_)
    · exact absurd y2 (by decide)
    · skip
      refine v_iconst (iI 1) dX11_root_15 rfl ?_
      refine v_goto 20 dX11_root_16 (by decide) ?_
      refine w_ei (bz true) rfl ?_
      refine v_iload_n dX11_root_20 rfl ?_
      refine v_iconst (iI 1) dX11_root_21 rfl ?_
      refine w_icmp_lt 35 dX11_root_22 (by decide) (by omega) (by decide) (fun y3 => ?_) (fun y3 => ?_)
      · exact absurd y3 (by omega)
      · skip
        refine v_iload_n dX11_root_25 rfl ?_
        refine v_bipush (iI 8) dX11_root_26 rfl ?_
        refine w_icmp_gt 35 dX11_root_28 (by decide) (by omega) (by decide) (fun y4 => ?_) (fun y4 => ?_)
        · exact absurd y4 (by omega)
        · skip
          refine v_iconst (iI 1) dX11_root_31 rfl ?_
          refine v_goto 36 dX11_root_32 (by decide) ?_
          refine w_ei (bz true) rfl ?_
          refine v_cV (av := [.int (iI (bz true)), .int (iI (bz true))]) (st := []) zyX11_goes lX11_172 h_47 rfl (p_goesT (d := 6) h_47) dX11_root_36 rfl rfl (Nat.le_of_ble_eq_true rfl) (by omega) (Nat.le_of_ble_eq_true rfl) (Nat.le_of_ble_eq_true rfl) (Or.inl (fun _ _ _ q => ZN q)) (fun r9 G1 n9 q9 => ?_)
          obtain ⟨rfl, q9n, h_47, fr9⟩ := q9
          have q9n := q9n.symm
          subst q9n
          have h_48 := (fr9 48 (by decide)).trans h_48
          have h_49 := (fr9 49 (by decide)).trans h_49
          have h_58 := (fr9 58 (by decide)).trans h_58
          have h_66 := (fr9 66 (by decide)).trans h_66
          have h_67 := (fr9 67 (by decide)).trans h_67
          have h_68 := (fr9 68 (by decide)).trans h_68
          have h_73 := (fr9 73 (by decide)).trans h_73
          have nA := nA.fr fr9 (by decide) (by decide)
          have nB := nB.fr fr9 (by decide) (by decide)
          have nL := nL.fr fr9 (by decide) (by decide)
          have nR := nR.fr fr9 (by decide) (by decide)
          have nP := nP.fr fr9 (by decide) (by decide)
          have nS := nS.fr fr9 (by decide) (by decide)
          have nN := nN.fr fr9 (by decide) (by decide)
          have nD := nD.fr fr9 (by decide) (by decide)
          have nLo := nLo.fr fr9 (by decide) (by decide)
          have nUp := nUp.fr fr9 (by decide) (by decide)
          have hS := hS.fr fr9 (by decide) (by decide) (by decide)
          have hq := hq.fr fr9 (by decide)
          have fr := fr.tr fr9 (by decide)
          refine w_ifb_ne 43 dX11_root_39 (by decide) (fun c1 => ?_) (fun c1 => ?_)
          · skip
            refine v_aload_n dX11_root_43 rfl ?_
            refine v_iload_n dX11_root_44 rfl ?_
            refine v_cV (av := [.int (iI (a1:Nat))]) (st := []) zyX11_isNar lX11_176 h_47 rfl (p_misNar (d := 6) h_47 h_48 h_49 hPL h1) dX11_root_45 rfl rfl (Nat.le_of_ble_eq_true rfl) (by omega) (Nat.le_of_ble_eq_true rfl) (Nat.le_of_ble_eq_true rfl) (Or.inl (fun _ _ _ q => ZN q)) (fun r9 K3 n9 q9 => ?_)
            obtain ⟨rfl, q9n, q9h⟩ := q9
            have q9n := q9n.symm
            subst q9n
            have q9h := q9h.symm
            subst q9h
            refine w_ifb_eq 57 dX11_root_48 (by decide) (fun x1 => ?_) (fun x1 => ?_)
            · have x1 := of_decide_eq_false x1
              refine v_aload_n dX11_root_57 rfl ?_
              refine v_iload_n dX11_root_58 rfl ?_
              refine v_cV (av := [.int (iI (a1:Nat))]) (st := []) zyX11_takeValue lX11_179 h_47 rfl (p_takeValue (d := 6) h_47 h_48 h_49 hPL h1 nA nB (by decide)) dX11_root_59 rfl rfl (Nat.le_of_ble_eq_true rfl) (by omega) (Nat.le_of_ble_eq_true rfl) (Nat.le_of_ble_eq_true rfl) (Or.inl (fun _ _ _ q => ZN q)) (fun r9 G2 n9 q9 => ?_)
              obtain ⟨rfl, q9n, ⟨s1, M1, E1, h_47, hl1, hm1, hx1, hy1, hA, hB⟩, fr8⟩ := q9
              have q9n := q9n.symm
              subst q9n
              obtain ⟨es, hsz⟩ := lk_sg hl1 x1
              have hsc := sgI_c (pvI (pt a1) (wd a1))
              have hsr := sgI_r (pvI (pt a1) (wd a1))
              rw [← es] at hsc hsr
              have h_48 := (fr8 48 (by decide)).trans h_48
              have h_49 := (fr8 49 (by decide)).trans h_49
              have h_58 := (fr8 58 (by decide)).trans h_58
              have h_66 := (fr8 66 (by decide)).trans h_66
              have h_67 := (fr8 67 (by decide)).trans h_67
              have h_68 := (fr8 68 (by decide)).trans h_68
              have h_73 := (fr8 73 (by decide)).trans h_73
              have nL := nL.fr fr8 (by decide) (by decide)
              have nR := nR.fr fr8 (by decide) (by decide)
              have nP := nP.fr fr8 (by decide) (by decide)
              have nS := nS.fr fr8 (by decide) (by decide)
              have nN := nN.fr fr8 (by decide) (by decide)
              have nD := nD.fr fr8 (by decide) (by decide)
              have nLo := nLo.fr fr8 (by decide) (by decide)
              have nUp := nUp.fr fr8 (by decide) (by decide)
              have hS := hS.fr fr8 (by decide) (by decide) (by decide)
              have hq := hq.fr fr8 (by decide)
              have fr := fr.tr fr8 (by decide)
              have nA := hA.ns
              have nB := hB.ns
              have go : ¬ (pvI (pt a1) (wd a1) < 0 ∧ k % 2 = 0) → (zV X (fun r9 h' n' => r9 = none ∧ n' = n ∧ MD h' wd (zup pt a3 (mrt wd pt a1 k a3)) Q qn tf tc L 0 ∧ zFr MOL h h') cX11_root 4 RX11 none d 0 0 81 [(0, .ref 47), (1, .int (iI (a1:Nat))), (2, .int (iI (k:Nat))), (3, .int (iI (a3:Nat)))] [] G2 n 0 0) := by
                intro hn
                refine v_aload_n dX11_root_81 rfl ?_
                refine v_iload_n dX11_root_82 rfl ?_
                refine v_put (fs' := [.int (iI s1), .long (jL (M1:Nat)), .int (iI E1), .ref 48, .ref 49, .int (iI s1), .ref 50, .ref 52, .int (iI E1), .int (iI (k:Nat)), .ref 54, .ref 56, .ref 58, .ref 59, .ref 62, .ref 64, .int (iI 0), .ref 66, .int (iI (tc:Nat)), .ref 67, .int (iI (L.length:Nat)), .int (iI at9), .int (iI sz), .int (iI dg), .int (iI pw), .ref 68, .ref 69, .ref 71, .int (iI tn), .ref 73, .int (iI fm), .ref 74, .ref 76]) fX11_51 dX11_root_83 h_47 (by decide) (Nat.le_of_ble_eq_true rfl) rfl rfl rfl (fun H1 eH1 => ?_)
                have h_47 : H1 47 = oModel s1 (M1:Nat) E1 s1 E1 (k:Nat) 0 (tc:Nat) (L.length:Nat) at9 sz dg pw tn fm := zf_same eH1
                have h_48 := (zf_ne eH1 (by decide)).trans h_48
                have h_49 := (zf_ne eH1 (by decide)).trans h_49
                have fr := fr.put eH1 (by simp)
                refine v_aload_n dX11_root_86 rfl ?_
                refine v_iload_n dX11_root_87 rfl ?_
                have fz : zFr [47] G2 H1 := zFr.put zFr.rf eH1 (by simp)
                have h_58 := (fz 58 (by decide)).trans h_58
                have h_66 := (fz 66 (by decide)).trans h_66
                have h_67 := (fz 67 (by decide)).trans h_67
                have h_68 := (fz 68 (by decide)).trans h_68
                have h_73 := (fz 73 (by decide)).trans h_73
                have nA := nA.fr fz (by decide) (by decide)
                have nB := nB.fr fz (by decide) (by decide)
                have nL := nL.fr fz (by decide) (by decide)
                have nR := nR.fr fz (by decide) (by decide)
                have nP := nP.fr fz (by decide) (by decide)
                have nS := nS.fr fz (by decide) (by decide)
                have nN := nN.fr fz (by decide) (by decide)
                have nD := nD.fr fz (by decide) (by decide)
                have nLo := nLo.fr fz (by decide) (by decide)
                have nUp := nUp.fr fz (by decide) (by decide)
                have hS := hS.fr fz (by decide) (by decide) (by decide)
                have hq := hq.fr fz (by decide)
                have hA := hA.fr fz (by decide) (by decide)
                have hB := hB.fr fz (by decide) (by decide)
                have hnM : nb M1 ≤ 32 := nb_le (k := 32) hm1
                refine v_cV (av := [.int (iI (a3:Nat))]) (st := []) zyX11_become lX11_185 h_47 rfl (p_become (d := 6) (rt := k) h_47 h_48 h_49 hA hB nL nR hsr (fun z => by have := hsz z; omega) (by omega) (by decide) (by decide) hk (by omega) h3 ⟨w3.1, w3.2.1⟩ (by decide)) dX11_root_88 rfl rfl (Nat.le_of_ble_eq_true rfl) (by omega) (Nat.le_of_ble_eq_true rfl) (Nat.le_of_ble_eq_true rfl) (Or.inl (fun _ _ _ q => ZN q)) (fun r9 G6 n9 q9 => ?_)
                obtain ⟨rfl, q9n, ⟨v7, v8, v9, h_47⟩, h_49, nL, nR, fr4⟩ := q9
                have q9n := q9n.symm
                subst q9n
                have h_48 := (fr4 48 (by decide)).trans h_48
                have h_58 := (fr4 58 (by decide)).trans h_58
                have h_66 := (fr4 66 (by decide)).trans h_66
                have h_67 := (fr4 67 (by decide)).trans h_67
                have h_68 := (fr4 68 (by decide)).trans h_68
                have h_73 := (fr4 73 (by decide)).trans h_73
                have nA := nA.fr fr4 (by decide) (by decide)
                have nB := nB.fr fr4 (by decide) (by decide)
                have nP := nP.fr fr4 (by decide) (by decide)
                have nS := nS.fr fr4 (by decide) (by decide)
                have nN := nN.fr fr4 (by decide) (by decide)
                have nD := nD.fr fr4 (by decide) (by decide)
                have nLo := nLo.fr fr4 (by decide) (by decide)
                have nUp := nUp.fr fr4 (by decide) (by decide)
                have hS := hS.fr fr4 (by decide) (by decide) (by decide)
                have hq := hq.fr fr4 (by decide)
                have fr := fr.tr fr4 (by decide)
                have e9 : rdR s1 (CP M1 1 E1 k) (wd a3) = mrt wd pt a1 k a3 := by
                  unfold mrt
                  rw [if_neg (fun z => z.elim x1 hn), ← es]
                  exact rd_c (fun z => by have h5 := hsz z; have := CP_a (b := 1) (c := 0) (rt := k) h5.1 h5.2.1; rw [Int.add_zero, Int.add_zero] at this; exact this)
                rw [e9] at h_49
                exact v_vret dX11_root_91 trivial (Nat.le_of_ble_eq_true rfl) (Nat.le_of_ble_eq_true rfl) ⟨rfl, rfl, ⟨_, _, _, _, _, _, _, _, _, _, _, _, h_47, h_48, h_49, ⟨nA, nB, nL, nR, nP, nS, nN, nD, nLo, nUp⟩, h_58, ⟨_, _, hS⟩, hq, h_66, ⟨_, h_67, hbb, htx⟩, ⟨_, h_68⟩, ⟨_, h_73⟩⟩, fr⟩
              refine v_aload_n dX11_root_62 rfl ?_
              refine v_get fX11_32 dX11_root_63 h_47 (by decide) rfl ?_
              refine w_if_ge 81 dX11_root_66 (by decide) (by omega) (fun c2 => ?_) (fun c2 => ?_)
              · exact go (by omega)
              · skip
                refine v_iload_n dX11_root_69 rfl ?_
                refine v_iconst (iI 2) dX11_root_70 rfl ?_
                refine w_iremn dX11_root_71 (by omega) (by decide) ?_
                refine w_if_ne 81 dX11_root_72 (by decide) (by omega) (fun c3 => ?_) (fun c3 => ?_)
                · exact go (by omega)
                · exact nar75 _ ⟨_, _, _, _, _, _, _, _, _, _, _, _, h_47, h_48, h_49, ⟨nA, nB, nL, nR, nP, nS, nN, nD, nLo, nUp⟩, h_58, ⟨_, _, hS⟩, hq, h_66, ⟨_, h_67, hbb, htx⟩, ⟨_, h_68⟩, ⟨_, h_73⟩⟩ fr (Or.inr ⟨by omega, by omega⟩)
            · exact nar51 _ ⟨_, _, _, _, _, _, _, _, _, _, _, _, h_47, h_48, h_49, ⟨nA, nB, nL, nR, nP, nS, nN, nD, nLo, nUp⟩, h_58, ⟨_, _, hS⟩, hq, h_66, ⟨_, h_67, hbb, htx⟩, ⟨_, h_68⟩, ⟨_, h_73⟩⟩ fr (Or.inl (of_decide_eq_true x1))
          · exact absurd c1 (by decide)
noncomputable def mun (wd pt : Nat → Nat) (a1 a3 : Nat) : Nat := if pt a1 = 2 ^ (wd a1 - 1) ∨ pvI (pt a1) (wd a1) ≤ 0 then 2 ^ (wd a3 - 1) else rdR 1 (CP 1 (pvI (pt a1) (wd a1)).natAbs 120 2) (wd a3)
set_option maxHeartbeats 8000000 in
set_option maxRecDepth 100000 in
theorem p_Munder {d n tc a1 a3 : Nat} {wd pt tf : Nat → Nat} {Q : Nat → Int} {qn : Nat → Bool} {L : List Nat} {th : Int} {h : zH} (hM : MD h wd pt Q qn tf tc L th) (hPL : PL wd pt) (h1 : a1 < 32) (h3 : a3 < 32) (hd : 7 ≤ d) :
    zM yX11_under cX11_under 3 none d 0 0 [.ref 47, .int (iI (a1:Nat)), .int (iI (a3:Nat))] h n (fun r9 h' n' => r9 = none ∧ n' = n ∧ MD h' wd (zup pt a3 (mun wd pt a1 a3)) Q qn tf tc L 0 ∧ zFr MOL h h') := by
  obtain ⟨vs, vm, ve, sg, e, rt, at9, sz, dg, pw, tn, fm, h_47, h_48, h_49, ⟨nA, nB, nL, nR, nP, nS, nN, nD, nLo, nUp⟩, h_58, ⟨Q0, n0, hS⟩, hq, h_66, ⟨tx, h_67, hbb, htx⟩, ⟨fg, h_68⟩, ⟨fw, h_73⟩⟩ := id hM
  have w1 := hPL a1 h1
  have w3 := hPL a3 h3
  refine zM_of zyX11_under rfl (Nat.le_of_ble_eq_true rfl) (fun X hX => ?_)
  have fr : zFr MOL h h := zFr.rf
  have nar36 : ∀ (H : zH), MD H wd pt Q qn tf tc L 0 → zFr MOL h H → (pt a1 = 2 ^ (wd a1 - 1) ∨ pvI (pt a1) (wd a1) ≤ 0) → (zV X (fun r9 h' n' => r9 = none ∧ n' = n ∧ MD h' wd (zup pt a3 (mun wd pt a1 a3)) Q qn tf tc L 0 ∧ zFr MOL h h') cX11_under 3 RX11 none d 0 0 36 [(0, .ref 47), (1, .int (iI (a1:Nat))), (2, .int (iI (a3:Nat)))] [] H n 0 0) := by
    intro H hM fr hn
    obtain ⟨vs, vm, ve, sg, e, rt, at9, sz, dg, pw, tn, fm, h_47, h_48, h_49, ⟨nA, nB, nL, nR, nP, nS, nN, nD, nLo, nUp⟩, h_58, ⟨Q0, n0, hS⟩, hq, h_66, ⟨tx, h_67, hbb, htx⟩, ⟨fg, h_68⟩, ⟨fw, h_73⟩⟩ := id hM
    refine v_aload_n dX11_under_36 rfl ?_
    refine v_iload_n dX11_under_37 rfl ?_
    refine v_cV (av := [.int (iI (a3:Nat))]) (st := []) zyX11_becomeNar lX11_182 h_47 rfl (p_becomeNar (d := 6) h_47 h_48 h_49 h3 ⟨w3.1, w3.2.1⟩) dX11_under_38 rfl rfl (Nat.le_of_ble_eq_true rfl) (by omega) (Nat.le_of_ble_eq_true rfl) (Nat.le_of_ble_eq_true rfl) (Or.inl (fun _ _ _ q => ZN q)) (fun r9 G9 n9 q9 => ?_)
    obtain ⟨rfl, q9n, h_49, fr8⟩ := q9
    have q9n := q9n.symm
    subst q9n
    have h_47 := (fr8 47 (by decide)).trans h_47
    have h_48 := (fr8 48 (by decide)).trans h_48
    have h_58 := (fr8 58 (by decide)).trans h_58
    have h_66 := (fr8 66 (by decide)).trans h_66
    have h_67 := (fr8 67 (by decide)).trans h_67
    have h_68 := (fr8 68 (by decide)).trans h_68
    have h_73 := (fr8 73 (by decide)).trans h_73
    have nA := nA.fr fr8 (by decide) (by decide)
    have nB := nB.fr fr8 (by decide) (by decide)
    have nL := nL.fr fr8 (by decide) (by decide)
    have nR := nR.fr fr8 (by decide) (by decide)
    have nP := nP.fr fr8 (by decide) (by decide)
    have nS := nS.fr fr8 (by decide) (by decide)
    have nN := nN.fr fr8 (by decide) (by decide)
    have nD := nD.fr fr8 (by decide) (by decide)
    have nLo := nLo.fr fr8 (by decide) (by decide)
    have nUp := nUp.fr fr8 (by decide) (by decide)
    have hS := hS.fr fr8 (by decide) (by decide) (by decide)
    have hq := hq.fr fr8 (by decide)
    have fr := fr.tr fr8 (by decide)
    exact v_vret dX11_under_41 trivial (Nat.le_of_ble_eq_true rfl) (Nat.le_of_ble_eq_true rfl) ⟨rfl, rfl, by unfold mun; rw [if_pos hn]; exact ⟨_, _, _, _, _, _, _, _, _, _, _, _, h_47, h_48, h_49, ⟨nA, nB, nL, nR, nP, nS, nN, nD, nLo, nUp⟩, h_58, ⟨_, _, hS⟩, hq, h_66, ⟨_, h_67, hbb, htx⟩, ⟨_, h_68⟩, ⟨_, h_73⟩⟩, fr⟩
  have nar54 : ∀ (H : zH), MD H wd pt Q qn tf tc L 0 → zFr MOL h H → (pt a1 = 2 ^ (wd a1 - 1) ∨ pvI (pt a1) (wd a1) ≤ 0) → (zV X (fun r9 h' n' => r9 = none ∧ n' = n ∧ MD h' wd (zup pt a3 (mun wd pt a1 a3)) Q qn tf tc L 0 ∧ zFr MOL h h') cX11_under 3 RX11 none d 0 0 54 [(0, .ref 47), (1, .int (iI (a1:Nat))), (2, .int (iI (a3:Nat)))] [] H n 0 0) := by
    intro H hM fr hn
    obtain ⟨vs, vm, ve, sg, e, rt, at9, sz, dg, pw, tn, fm, h_47, h_48, h_49, ⟨nA, nB, nL, nR, nP, nS, nN, nD, nLo, nUp⟩, h_58, ⟨Q0, n0, hS⟩, hq, h_66, ⟨tx, h_67, hbb, htx⟩, ⟨fg, h_68⟩, ⟨fw, h_73⟩⟩ := id hM
    refine v_aload_n dX11_under_54 rfl ?_
    refine v_iload_n dX11_under_55 rfl ?_
    refine v_cV (av := [.int (iI (a3:Nat))]) (st := []) zyX11_becomeNar lX11_182 h_47 rfl (p_becomeNar (d := 6) h_47 h_48 h_49 h3 ⟨w3.1, w3.2.1⟩) dX11_under_56 rfl rfl (Nat.le_of_ble_eq_true rfl) (by omega) (Nat.le_of_ble_eq_true rfl) (Nat.le_of_ble_eq_true rfl) (Or.inl (fun _ _ _ q => ZN q)) (fun r9 G9 n9 q9 => ?_)
    obtain ⟨rfl, q9n, h_49, fr8⟩ := q9
    have q9n := q9n.symm
    subst q9n
    have h_47 := (fr8 47 (by decide)).trans h_47
    have h_48 := (fr8 48 (by decide)).trans h_48
    have h_58 := (fr8 58 (by decide)).trans h_58
    have h_66 := (fr8 66 (by decide)).trans h_66
    have h_67 := (fr8 67 (by decide)).trans h_67
    have h_68 := (fr8 68 (by decide)).trans h_68
    have h_73 := (fr8 73 (by decide)).trans h_73
    have nA := nA.fr fr8 (by decide) (by decide)
    have nB := nB.fr fr8 (by decide) (by decide)
    have nL := nL.fr fr8 (by decide) (by decide)
    have nR := nR.fr fr8 (by decide) (by decide)
    have nP := nP.fr fr8 (by decide) (by decide)
    have nS := nS.fr fr8 (by decide) (by decide)
    have nN := nN.fr fr8 (by decide) (by decide)
    have nD := nD.fr fr8 (by decide) (by decide)
    have nLo := nLo.fr fr8 (by decide) (by decide)
    have nUp := nUp.fr fr8 (by decide) (by decide)
    have hS := hS.fr fr8 (by decide) (by decide) (by decide)
    have hq := hq.fr fr8 (by decide)
    have fr := fr.tr fr8 (by decide)
    exact v_vret dX11_under_59 trivial (Nat.le_of_ble_eq_true rfl) (Nat.le_of_ble_eq_true rfl) ⟨rfl, rfl, by unfold mun; rw [if_pos hn]; exact ⟨_, _, _, _, _, _, _, _, _, _, _, _, h_47, h_48, h_49, ⟨nA, nB, nL, nR, nP, nS, nN, nD, nLo, nUp⟩, h_58, ⟨_, _, hS⟩, hq, h_66, ⟨_, h_67, hbb, htx⟩, ⟨_, h_68⟩, ⟨_, h_73⟩⟩, fr⟩
  refine v_aload_n dX11_under_0 rfl ?_
  refine v_iload_n dX11_under_1 rfl ?_
  refine v_cS (av := [.int (iI (a1:Nat))]) (st := [.ref 47]) zyX11_isPlace lX11_165 (p_isPlaceT (d := 6) h1) dX11_under_2 rfl rfl (Nat.le_of_ble_eq_true rfl) (by omega) (Nat.le_of_ble_eq_true rfl) (Nat.le_of_ble_eq_true rfl) (Or.inl (fun _ _ _ q => ZN q)) (fun r9 K1 n9 q9 => ?_)
  obtain ⟨rfl, q9n, q9h⟩ := q9
  have q9n := q9n.symm
  subst q9n
  have q9h := q9h.symm
  subst q9h
  refine w_ifb_eq 19 dX11_under_5 (by decide) (fun y1 => ?_) (fun y1 => ?_)
  · exact absurd y1 (by decide)
  · skip
    refine v_iload_n dX11_under_8 rfl ?_
    refine v_cS (av := [.int (iI (a3:Nat))]) (st := [.ref 47]) zyX11_isPlace lX11_165 (p_isPlaceT (d := 6) h3) dX11_under_9 rfl rfl (Nat.le_of_ble_eq_true rfl) (by omega) (Nat.le_of_ble_eq_true rfl) (Nat.le_of_ble_eq_true rfl) (Or.inl (fun _ _ _ q => ZN q)) (fun r9 K2 n9 q9 => ?_)
    obtain ⟨rfl, q9n, q9h⟩ := q9
    have q9n := q9n.symm
    subst q9n
    have q9h := q9h.symm
    subst q9h
    refine w_ifb_eq 19 dX11_under_12 (by decide) (fun y2 => ?_) (fun y2 => ?_)
    · exact absurd y2 (by decide)
    · skip
      refine v_iconst (iI 1) dX11_under_15 rfl ?_
      refine v_goto 20 dX11_under_16 (by decide) ?_
      refine w_ei (bz true) rfl ?_
      refine v_iconst (iI 1) dX11_under_20 rfl ?_
      refine w_ei (bz true) rfl ?_
      refine v_cV (av := [.int (iI (bz true)), .int (iI (bz true))]) (st := []) zyX11_goes lX11_172 h_47 rfl (p_goesT (d := 6) h_47) dX11_under_21 rfl rfl (Nat.le_of_ble_eq_true rfl) (by omega) (Nat.le_of_ble_eq_true rfl) (Nat.le_of_ble_eq_true rfl) (Or.inl (fun _ _ _ q => ZN q)) (fun r9 G1 n9 q9 => ?_)
      obtain ⟨rfl, q9n, h_47, fr9⟩ := q9
      have q9n := q9n.symm
      subst q9n
      have h_48 := (fr9 48 (by decide)).trans h_48
      have h_49 := (fr9 49 (by decide)).trans h_49
      have h_58 := (fr9 58 (by decide)).trans h_58
      have h_66 := (fr9 66 (by decide)).trans h_66
      have h_67 := (fr9 67 (by decide)).trans h_67
      have h_68 := (fr9 68 (by decide)).trans h_68
      have h_73 := (fr9 73 (by decide)).trans h_73
      have nA := nA.fr fr9 (by decide) (by decide)
      have nB := nB.fr fr9 (by decide) (by decide)
      have nL := nL.fr fr9 (by decide) (by decide)
      have nR := nR.fr fr9 (by decide) (by decide)
      have nP := nP.fr fr9 (by decide) (by decide)
      have nS := nS.fr fr9 (by decide) (by decide)
      have nN := nN.fr fr9 (by decide) (by decide)
      have nD := nD.fr fr9 (by decide) (by decide)
      have nLo := nLo.fr fr9 (by decide) (by decide)
      have nUp := nUp.fr fr9 (by decide) (by decide)
      have hS := hS.fr fr9 (by decide) (by decide) (by decide)
      have hq := hq.fr fr9 (by decide)
      have fr := fr.tr fr9 (by decide)
      refine w_ifb_ne 28 dX11_under_24 (by decide) (fun c1 => ?_) (fun c1 => ?_)
      · skip
        refine v_aload_n dX11_under_28 rfl ?_
        refine v_iload_n dX11_under_29 rfl ?_
        refine v_cV (av := [.int (iI (a1:Nat))]) (st := []) zyX11_isNar lX11_176 h_47 rfl (p_misNar (d := 6) h_47 h_48 h_49 hPL h1) dX11_under_30 rfl rfl (Nat.le_of_ble_eq_true rfl) (by omega) (Nat.le_of_ble_eq_true rfl) (Nat.le_of_ble_eq_true rfl) (Or.inl (fun _ _ _ q => ZN q)) (fun r9 K3 n9 q9 => ?_)
        obtain ⟨rfl, q9n, q9h⟩ := q9
        have q9n := q9n.symm
        subst q9n
        have q9h := q9h.symm
        subst q9h
        refine w_ifb_eq 42 dX11_under_33 (by decide) (fun x1 => ?_) (fun x1 => ?_)
        · have x1 := of_decide_eq_false x1
          refine v_aload_n dX11_under_42 rfl ?_
          refine v_iload_n dX11_under_43 rfl ?_
          refine v_cV (av := [.int (iI (a1:Nat))]) (st := []) zyX11_takeValue lX11_179 h_47 rfl (p_takeValue (d := 6) h_47 h_48 h_49 hPL h1 nA nB (by decide)) dX11_under_44 rfl rfl (Nat.le_of_ble_eq_true rfl) (by omega) (Nat.le_of_ble_eq_true rfl) (Nat.le_of_ble_eq_true rfl) (Or.inl (fun _ _ _ q => ZN q)) (fun r9 G2 n9 q9 => ?_)
          obtain ⟨rfl, q9n, ⟨s1, M1, E1, h_47, hl1, hm1, hx1, hy1, hA, hB⟩, fr8⟩ := q9
          have q9n := q9n.symm
          subst q9n
          obtain ⟨es, hsz⟩ := lk_sg hl1 x1
          have hsc := sgI_c (pvI (pt a1) (wd a1))
          have hsr := sgI_r (pvI (pt a1) (wd a1))
          rw [← es] at hsc hsr
          have h_48 := (fr8 48 (by decide)).trans h_48
          have h_49 := (fr8 49 (by decide)).trans h_49
          have h_58 := (fr8 58 (by decide)).trans h_58
          have h_66 := (fr8 66 (by decide)).trans h_66
          have h_67 := (fr8 67 (by decide)).trans h_67
          have h_68 := (fr8 68 (by decide)).trans h_68
          have h_73 := (fr8 73 (by decide)).trans h_73
          have nL := nL.fr fr8 (by decide) (by decide)
          have nR := nR.fr fr8 (by decide) (by decide)
          have nP := nP.fr fr8 (by decide) (by decide)
          have nS := nS.fr fr8 (by decide) (by decide)
          have nN := nN.fr fr8 (by decide) (by decide)
          have nD := nD.fr fr8 (by decide) (by decide)
          have nLo := nLo.fr fr8 (by decide) (by decide)
          have nUp := nUp.fr fr8 (by decide) (by decide)
          have hS := hS.fr fr8 (by decide) (by decide) (by decide)
          have hq := hq.fr fr8 (by decide)
          have fr := fr.tr fr8 (by decide)
          have nA := hA.ns
          have nB := hB.ns
          refine v_aload_n dX11_under_47 rfl ?_
          refine v_get fX11_32 dX11_under_48 h_47 (by decide) rfl ?_
          refine w_if_gt 60 dX11_under_51 (by decide) (by omega) (fun c2 => ?_) (fun c2 => ?_)
          · have es1 : s1 = 1 := by omega
            have h5 := hsz (by omega)
            have hnM : nb M1 ≤ 32 := nb_le (k := 32) hm1
            refine v_aload_n dX11_under_60 rfl ?_
            refine v_get fX11_45 dX11_under_61 h_47 (by decide) rfl ?_
            refine v_aload_n dX11_under_64 rfl ?_
            refine v_get fX11_35 dX11_under_65 h_47 (by decide) rfl ?_
            obtain ⟨_, _, h_52, -⟩ := id hB
            refine v_cV (av := [.ref 50]) (st := []) zyX9_copy lX11_57 h_52 rfl (p_ncopy (d := 6) hB.ns hA (by decide)) dX11_under_68 rfl rfl (Nat.le_of_ble_eq_true rfl) (by omega) (Nat.le_of_ble_eq_true rfl) (Nat.le_of_ble_eq_true rfl) (Or.inl (fun _ _ _ q => ZN q)) (fun r9 G3 n9 q9 => ?_)
            obtain ⟨rfl, q9n, hB, fr7⟩ := q9
            have q9n := q9n.symm
            subst q9n
            have hA := hA.fr fr7 (by decide) (by decide)
            have h_47 := (fr7 47 (by decide)).trans h_47
            have h_48 := (fr7 48 (by decide)).trans h_48
            have h_49 := (fr7 49 (by decide)).trans h_49
            have h_58 := (fr7 58 (by decide)).trans h_58
            have h_66 := (fr7 66 (by decide)).trans h_66
            have h_67 := (fr7 67 (by decide)).trans h_67
            have h_68 := (fr7 68 (by decide)).trans h_68
            have h_73 := (fr7 73 (by decide)).trans h_73
            have nL := nL.fr fr7 (by decide) (by decide)
            have nR := nR.fr fr7 (by decide) (by decide)
            have nP := nP.fr fr7 (by decide) (by decide)
            have nS := nS.fr fr7 (by decide) (by decide)
            have nN := nN.fr fr7 (by decide) (by decide)
            have nD := nD.fr fr7 (by decide) (by decide)
            have nLo := nLo.fr fr7 (by decide) (by decide)
            have nUp := nUp.fr fr7 (by decide) (by decide)
            have hS := hS.fr fr7 (by decide) (by decide) (by decide)
            have hq := hq.fr fr7 (by decide)
            have fr := fr.tr fr7 (by decide)
            refine v_aload_n dX11_under_71 rfl ?_
            refine v_get fX11_35 dX11_under_72 h_47 (by decide) rfl ?_
            refine v_lconst (jL 1) dX11_under_75 rfl ?_
            obtain ⟨_, _, h_50, -⟩ := id hA
            refine v_cV (av := [.long (jL 1)]) (st := []) zyX9_set lX11_39 h_50 rfl (p_nset (d := 6) (x := 1) hA.ns (by decide) (by decide) (by decide)) dX11_under_76 rfl rfl (Nat.le_of_ble_eq_true rfl) (by omega) (Nat.le_of_ble_eq_true rfl) (Nat.le_of_ble_eq_true rfl) (Or.inl (fun _ _ _ q => ZN q)) (fun r9 G4 n9 q9 => ?_)
            obtain ⟨rfl, q9n, hA, fr6⟩ := q9
            have q9n := q9n.symm
            subst q9n
            have hB := hB.fr fr6 (by decide) (by decide)
            have h_47 := (fr6 47 (by decide)).trans h_47
            have h_48 := (fr6 48 (by decide)).trans h_48
            have h_49 := (fr6 49 (by decide)).trans h_49
            have h_58 := (fr6 58 (by decide)).trans h_58
            have h_66 := (fr6 66 (by decide)).trans h_66
            have h_67 := (fr6 67 (by decide)).trans h_67
            have h_68 := (fr6 68 (by decide)).trans h_68
            have h_73 := (fr6 73 (by decide)).trans h_73
            have nL := nL.fr fr6 (by decide) (by decide)
            have nR := nR.fr fr6 (by decide) (by decide)
            have nP := nP.fr fr6 (by decide) (by decide)
            have nS := nS.fr fr6 (by decide) (by decide)
            have nN := nN.fr fr6 (by decide) (by decide)
            have nD := nD.fr fr6 (by decide) (by decide)
            have nLo := nLo.fr fr6 (by decide) (by decide)
            have nUp := nUp.fr fr6 (by decide) (by decide)
            have hS := hS.fr fr6 (by decide) (by decide) (by decide)
            have hq := hq.fr fr6 (by decide)
            have fr := fr.tr fr6 (by decide)
            refine v_aload_n dX11_under_79 rfl ?_
            refine v_aload_n dX11_under_80 rfl ?_
            refine v_get fX11_48 dX11_under_81 h_47 (by decide) rfl ?_
            refine w_ineg dX11_under_84 ?_
            refine v_put (fs' := [.int (iI s1), .long (jL (M1:Nat)), .int (iI E1), .ref 48, .ref 49, .int (iI s1), .ref 50, .ref 52, .int (iI (-E1)), .int (iI 1), .ref 54, .ref 56, .ref 58, .ref 59, .ref 62, .ref 64, .int (iI 0), .ref 66, .int (iI (tc:Nat)), .ref 67, .int (iI (L.length:Nat)), .int (iI at9), .int (iI sz), .int (iI dg), .int (iI pw), .ref 68, .ref 69, .ref 71, .int (iI tn), .ref 73, .int (iI fm), .ref 74, .ref 76]) fX11_48 dX11_under_85 h_47 (by decide) (Nat.le_of_ble_eq_true rfl) rfl rfl rfl (fun H1 eH1 => ?_)
            have h_47 : H1 47 = oModel s1 (M1:Nat) E1 s1 (-E1) 1 0 (tc:Nat) (L.length:Nat) at9 sz dg pw tn fm := zf_same eH1
            have h_48 := (zf_ne eH1 (by decide)).trans h_48
            have h_49 := (zf_ne eH1 (by decide)).trans h_49
            have fr := fr.put eH1 (by simp)
            refine v_aload_n dX11_under_88 rfl ?_
            refine v_iconst (iI 2) dX11_under_89 rfl ?_
            refine v_put (fs' := [.int (iI s1), .long (jL (M1:Nat)), .int (iI E1), .ref 48, .ref 49, .int (iI s1), .ref 50, .ref 52, .int (iI (-E1)), .int (iI 2), .ref 54, .ref 56, .ref 58, .ref 59, .ref 62, .ref 64, .int (iI 0), .ref 66, .int (iI (tc:Nat)), .ref 67, .int (iI (L.length:Nat)), .int (iI at9), .int (iI sz), .int (iI dg), .int (iI pw), .ref 68, .ref 69, .ref 71, .int (iI tn), .ref 73, .int (iI fm), .ref 74, .ref 76]) fX11_51 dX11_under_90 h_47 (by decide) (Nat.le_of_ble_eq_true rfl) rfl rfl rfl (fun H2 eH2 => ?_)
            have h_47 : H2 47 = oModel s1 (M1:Nat) E1 s1 (-E1) 2 0 (tc:Nat) (L.length:Nat) at9 sz dg pw tn fm := zf_same eH2
            have h_48 := (zf_ne eH2 (by decide)).trans h_48
            have h_49 := (zf_ne eH2 (by decide)).trans h_49
            have fr := fr.put eH2 (by simp)
            refine v_aload_n dX11_under_93 rfl ?_
            refine v_iload_n dX11_under_94 rfl ?_
            have fz : zFr [47] G4 H2 := (zFr.put zFr.rf eH1 (by simp)).put eH2 (by simp)
            have nA := hA.ns
            have nB := hB.ns
            have h_58 := (fz 58 (by decide)).trans h_58
            have h_66 := (fz 66 (by decide)).trans h_66
            have h_67 := (fz 67 (by decide)).trans h_67
            have h_68 := (fz 68 (by decide)).trans h_68
            have h_73 := (fz 73 (by decide)).trans h_73
            have nA := nA.fr fz (by decide) (by decide)
            have nB := nB.fr fz (by decide) (by decide)
            have nL := nL.fr fz (by decide) (by decide)
            have nR := nR.fr fz (by decide) (by decide)
            have nP := nP.fr fz (by decide) (by decide)
            have nS := nS.fr fz (by decide) (by decide)
            have nN := nN.fr fz (by decide) (by decide)
            have nD := nD.fr fz (by decide) (by decide)
            have nLo := nLo.fr fz (by decide) (by decide)
            have nUp := nUp.fr fz (by decide) (by decide)
            have hS := hS.fr fz (by decide) (by decide) (by decide)
            have hq := hq.fr fz (by decide)
            have hA := hA.fr fz (by decide) (by decide)
            have hB := hB.fr fz (by decide) (by decide)
            refine v_cV (av := [.int (iI (a3:Nat))]) (st := []) zyX11_become lX11_185 h_47 rfl (p_become (d := 6) (rt := 2) h_47 h_48 h_49 hA hB nL nR hsr (fun z => by decide) (by decide) (by omega) (by omega) (by decide) (by omega) h3 ⟨w3.1, w3.2.1⟩ (by decide)) dX11_under_95 rfl rfl (Nat.le_of_ble_eq_true rfl) (by omega) (Nat.le_of_ble_eq_true rfl) (Nat.le_of_ble_eq_true rfl) (Or.inl (fun _ _ _ q => ZN q)) (fun r9 G6 n9 q9 => ?_)
            obtain ⟨rfl, q9n, ⟨v7, v8, v9, h_47⟩, h_49, nL, nR, fr4⟩ := q9
            have q9n := q9n.symm
            subst q9n
            have h_48 := (fr4 48 (by decide)).trans h_48
            have h_58 := (fr4 58 (by decide)).trans h_58
            have h_66 := (fr4 66 (by decide)).trans h_66
            have h_67 := (fr4 67 (by decide)).trans h_67
            have h_68 := (fr4 68 (by decide)).trans h_68
            have h_73 := (fr4 73 (by decide)).trans h_73
            have nA := nA.fr fr4 (by decide) (by decide)
            have nB := nB.fr fr4 (by decide) (by decide)
            have nP := nP.fr fr4 (by decide) (by decide)
            have nS := nS.fr fr4 (by decide) (by decide)
            have nN := nN.fr fr4 (by decide) (by decide)
            have nD := nD.fr fr4 (by decide) (by decide)
            have nLo := nLo.fr fr4 (by decide) (by decide)
            have nUp := nUp.fr fr4 (by decide) (by decide)
            have hS := hS.fr fr4 (by decide) (by decide) (by decide)
            have hq := hq.fr fr4 (by decide)
            have fr := fr.tr fr4 (by decide)
            have e9 : rdR s1 (CP 1 M1 (-E1) 2) (wd a3) = mun wd pt a1 a3 := by
              unfold mun
              rw [if_neg (fun z => z.elim x1 (by omega)), es1]
              have := CP_b (b := 1) (c := 0) (rt := 2) h5.1 h5.2.1
              rw [Int.zero_sub, Int.zero_add] at this
              rw [this]
            rw [e9] at h_49
            exact v_vret dX11_under_98 trivial (Nat.le_of_ble_eq_true rfl) (Nat.le_of_ble_eq_true rfl) ⟨rfl, rfl, ⟨_, _, _, _, _, _, _, _, _, _, _, _, h_47, h_48, h_49, ⟨nA, nB, nL, nR, nP, nS, nN, nD, nLo, nUp⟩, h_58, ⟨_, _, hS⟩, hq, h_66, ⟨_, h_67, hbb, htx⟩, ⟨_, h_68⟩, ⟨_, h_73⟩⟩, fr⟩
          · exact nar54 _ ⟨_, _, _, _, _, _, _, _, _, _, _, _, h_47, h_48, h_49, ⟨nA, nB, nL, nR, nP, nS, nN, nD, nLo, nUp⟩, h_58, ⟨_, _, hS⟩, hq, h_66, ⟨_, h_67, hbb, htx⟩, ⟨_, h_68⟩, ⟨_, h_73⟩⟩ fr (Or.inr (by omega))
        · exact nar36 _ ⟨_, _, _, _, _, _, _, _, _, _, _, _, h_47, h_48, h_49, ⟨nA, nB, nL, nR, nP, nS, nN, nD, nLo, nUp⟩, h_58, ⟨_, _, hS⟩, hq, h_66, ⟨_, h_67, hbb, htx⟩, ⟨_, h_68⟩, ⟨_, h_73⟩⟩ fr (Or.inl (of_decide_eq_true x1))
      · exact absurd c1 (by decide)
