/-! The reference: order, quires -/
theorem QA.up {h h' : zH} {Q : Nat → Int} {qn : Nat → Bool} {k : Nat} {Q' : Int} {n' : Bool} {S : List Nat} (hq : QA h Q qn) (f : zFr S h h') (hS : ∀ x ∈ S, x < 78 ∨ 89 < x ∨ (78 + 3 * k ≤ x ∧ x ≤ 80 + 3 * k)) (hn : SQ h' (78 + 3 * k) (79 + 3 * k) (80 + 3 * k) Q' n') : QA h' (zup Q k Q') (zup qn k n') := fun j hj => by
  by_cases e : j = k
  · subst e; rw [zup_same, zup_same]; exact hn
  · rw [zup_ne _ _ e, zup_ne _ _ e]
    exact (hq j hj).fr f (fun z => by have := hS _ z; omega) (fun z => by have := hS _ z; omega) (fun z => by have := hS _ z; omega)
theorem isQ_n {a : Nat} (h : a < 4) : isQ (a : Int) = true := decide_eq_true (by omega)
theorem p_isQuireT {d n a : Nat} {h : zH} (ha : a < 4) :
    zM yX11_isQuire cX11_isQuire 1 (some .boolean) d 0 0 [.int (iI (a:Nat))] h n (fun r h' n' => r = some (.int (iI (bz true))) ∧ n' = n ∧ h' = h) := by
  have := p_isQuire (d := d) (n := n) (p := a) (h := h) (by omega)
  rw [show decide (0 ≤ (a : Int) ∧ (a : Int) < 4) = true from isQ_n ha] at this
  exact this
section
variable {X : zX} {Post : zP} {cc : ByteArray} {nL : Nat} {own : String} {ret : Option FieldType} {d MC MS pc : Nat} {lv : List (Nat × Value)} {st : List Value} {h : zH} {n cells slots : Nat}
theorem w_aald {k s a0 : Nat} {C1 : String} (hd : decode cc pc = .ok (.aaload, 1)) (ha : h a0 = oQarr (fun k => if k < 4 then some (78 + 3 * k) else none) C1) (hk : k < 4) (es : 78 + 3 * k = s) (k9 : zV X Post cc nL own ret d MC MS (pc + 1) lv (.ref s :: st) h n cells slots) : zV X Post cc nL own ret d MC MS pc lv (.int (iI (k : Nat)) :: .ref a0 :: st) h n cells slots :=
  v_aald hd ha (iI_in hk (by decide)) (by rw [iI_clamp (by omega), ← es]; exact if_pos hk) k9
end
set_option maxHeartbeats 8000000 in
set_option maxRecDepth 100000 in
theorem p_gatherInto {d n s a b p q : Nat} {by9 Q vs vm ve sg e rt th tp wr at9 sz dg pw tn fm : Int} {na : Bool} {wd pt : Nat → Nat} {h : zH} (h_47 : h 47 = oModel vs vm ve sg e rt th tp wr at9 sz dg pw tn fm) (h_48 : h 48 = aN 32 wd) (h_49 : h 49 = aM 32 pt) (hPL : PL wd pt) (hp : p < 32) (hq : q < 32) (hQ : SQ h s a b Q na) (hP : NS h 62 63) (hS : NS h 64 65) (hne : gne s a b) (hn2 : gq s 48 ∧ gq s 49 ∧ gq s a ∧ gq s b) (hby : by9 = 1 ∨ by9 = -1) (hb1 : nb Q.natAbs ≤ 5000) (hd : 4 ≤ d) :
    zM yX11_gatherInto cX11_gatherInto 5 none d 0 0 [.ref 47, .ref s, .int (iI (p:Nat)), .int (iI (q:Nat)), .int (iI by9)] h n (fun r h' n' => r = none ∧ n' = n ∧ (∃ vs vm ve, h' 47 = oModel vs vm ve sg e rt th tp wr at9 sz dg pw tn fm) ∧ SQ h' s a b (cond (na || (decide (pt p = 2 ^ (wd p - 1)) || decide (pt q = 2 ^ (wd q - 1)))) Q (Q + by9 * (pvI (pt p) (wd p) * pvI (pt q) (wd q)))) (na || (decide (pt p = 2 ^ (wd p - 1)) || decide (pt q = 2 ^ (wd q - 1)))) ∧ NS h' 62 63 ∧ NS h' 64 65 ∧ zFr [47, s, a, b, 62, 63, 64, 65] h h') := by
  obtain ⟨h_s, hZ⟩ := id hQ
  have ne_47_s : gq 47 s := (cne h_47 h_s (by decide)).symm
  have ne_48_s : gq 48 s := fun z => hn2.1 z.symm
  have ne_49_s : gq 49 s := fun z => hn2.2.1 z.symm
  obtain ⟨n1, en1⟩ : ∃ n1, decide (pt p = 2 ^ (wd p - 1)) = n1 := ⟨_, rfl⟩
  obtain ⟨n2, en2⟩ : ∃ n2, decide (pt q = 2 ^ (wd q - 1)) = n2 := ⟨_, rfl⟩
  refine zM_of zyX11_gatherInto rfl (Nat.le_of_ble_eq_true rfl) (fun X hX => ?_)
  have fr : zFr [47, s, a, b, 62, 63, 64, 65] h h := zFr.rf
  have j26 : ∀ b9 : Bool, b9 = (n1 || n2) → (zV X (fun r h' n' => r = none ∧ n' = n ∧ (∃ vs vm ve, h' 47 = oModel vs vm ve sg e rt th tp wr at9 sz dg pw tn fm) ∧ SQ h' s a b (cond (na || (decide (pt p = 2 ^ (wd p - 1)) || decide (pt q = 2 ^ (wd q - 1)))) Q (Q + by9 * (pvI (pt p) (wd p) * pvI (pt q) (wd q)))) (na || (decide (pt p = 2 ^ (wd p - 1)) || decide (pt q = 2 ^ (wd q - 1)))) ∧ NS h' 62 63 ∧ NS h' 64 65 ∧ zFr [47, s, a, b, 62, 63, 64, 65] h h') cX11_gatherInto 5 RX11 none d 0 0 26 [(0, .ref 47), (1, .ref s), (2, .int (iI (p:Nat))), (3, .int (iI (q:Nat))), (4, .int (iI by9))] [.int (iI (bz b9)), .int (iI (bz na)), .ref s] h n 0 0) := by
    intro b9 eb
    rw [en1, en2, ← eb]
    refine w_bor dX11_gatherInto_26 ?_
    refine v_putN (fs' := [.ref a, .int (iI (sgI Q)), .int (iI (bz (na || b9)))]) fX11_246 dX11_gatherInto_27 h_s (by decide) (Nat.le_of_ble_eq_true rfl) bz_n bz_f rfl (fun H1 eH1 => ?_)
    have h_s : H1 s = oSum a (sgI Q) (na || b9) := zf_same eH1
    have h_47 := (zf_ne eH1 ne_47_s).trans h_47
    have h_48 := (zf_ne eH1 ne_48_s).trans h_48
    have h_49 := (zf_ne eH1 ne_49_s).trans h_49
    have fr := fr.put eH1 (by simp)
    refine v_aload_n dX11_gatherInto_30 rfl ?_
    refine v_getN fX11_246 dX11_gatherInto_31 h_s (by decide) rfl ?_
    have fz : zFr [s] h H1 := zFr.put zFr.rf eH1 (by simp)
    have hZ := hZ.fr fz (by simp [hn2.2.2.1.nn.symm]) (by simp [hn2.2.2.2.nn.symm])
    have hP := hP.fr fz (by simp [hne.2.2.1.symm]) (by simp [hne.2.2.2.1.symm])
    have hS := hS.fr fz (by simp [hne.2.2.2.2.1.symm]) (by simp [hne.2.2.2.2.2.symm])
    refine w_ifb_ne 46 dX11_gatherInto_34 (by decide) (fun c1 => ?_) (fun c1 => ?_)
    · rw [c1] at h_s ⊢
      exact v_vret dX11_gatherInto_46 trivial (Nat.le_of_ble_eq_true rfl) (Nat.le_of_ble_eq_true rfl) ⟨rfl, rfl, ⟨_, _, _, h_47⟩, ⟨h_s, hZ⟩, hP, hS, fr⟩
    · have cb : b9 = false := by cases na <;> cases b9 <;> first | rfl | exact absurd c1 (by decide)
      have hp9 : pt p ≠ 2 ^ (wd p - 1) := of_decide_eq_false (by rw [en1]; cases n1 <;> cases n2 <;> first | rfl | (rw [cb] at eb; exact absurd eb (by decide)))
      have hq9 : pt q ≠ 2 ^ (wd q - 1) := of_decide_eq_false (by rw [en2]; cases n1 <;> cases n2 <;> first | rfl | (rw [cb] at eb; exact absurd eb (by decide)))
      refine v_aload_n dX11_gatherInto_37 rfl ?_
      refine v_aload_n dX11_gatherInto_38 rfl ?_
      refine v_iload_n dX11_gatherInto_39 rfl ?_
      refine v_iload_n dX11_gatherInto_40 rfl ?_
      refine v_iload dX11_gatherInto_41 rfl ?_
      refine v_cV (av := [.ref s, .int (iI (p:Nat)), .int (iI (q:Nat)), .int (iI by9)]) (st := []) zyX11_gatherProduct lX11_236 h_47 rfl (p_gatherProduct (d := 3) h_47 h_48 h_49 hPL hp hq hp9 hq9 ⟨h_s, hZ⟩ hP hS hne hby hb1 (by decide)) dX11_gatherInto_43 rfl rfl (Nat.le_of_ble_eq_true rfl) (by omega) (Nat.le_of_ble_eq_true rfl) (Nat.le_of_ble_eq_true rfl) (Or.inl (fun _ _ _ q => ZN q)) (fun r9 G1 n9 q9 => ?_)
      obtain ⟨rfl, q9n, hM7, hQ, hP, hS, fr9⟩ := q9
      have q9n := q9n.symm
      subst q9n
      rw [c1] at hQ ⊢
      exact v_vret dX11_gatherInto_46 trivial (Nat.le_of_ble_eq_true rfl) (Nat.le_of_ble_eq_true rfl) ⟨rfl, rfl, hM7, hQ, hP, hS, fr.tr fr9 (by simp)⟩
  refine v_aload_n dX11_gatherInto_0 rfl ?_
  refine v_dup dX11_gatherInto_1 rfl ?_
  refine v_getN fX11_246 dX11_gatherInto_2 h_s (by decide) rfl ?_
  refine v_aload_n dX11_gatherInto_5 rfl ?_
  refine v_iload_n dX11_gatherInto_6 rfl ?_
  refine v_cV (av := [.int (iI (p:Nat))]) (st := [.int (iI (bz na)), .ref s]) zyX11_isNar lX11_176 h_47 rfl (p_misNar (d := 3) h_47 h_48 h_49 hPL hp) dX11_gatherInto_7 rfl rfl (Nat.le_of_ble_eq_true rfl) (by omega) (Nat.le_of_ble_eq_true rfl) (Nat.le_of_ble_eq_true rfl) (Or.inl (fun _ _ _ q => ZN q)) (fun r9 K1 n9 q9 => ?_)
  obtain ⟨rfl, q9n, q9h⟩ := q9
  have q9n := q9n.symm
  subst q9n
  have q9h := q9h.symm
  subst q9h
  refine w_ifb_ne 21 dX11_gatherInto_10 (by decide) (fun c1 => ?_) (fun c1 => ?_)
  · skip
    refine v_iconst (iI 1) dX11_gatherInto_21 rfl ?_
    refine v_goto 26 dX11_gatherInto_22 (by decide) ?_
    refine w_ei (bz true) rfl ?_
    exact j26 true (by rw [← en1, c1]; rfl)
  · skip
    refine v_aload_n dX11_gatherInto_13 rfl ?_
    refine v_iload_n dX11_gatherInto_14 rfl ?_
    refine v_cV (av := [.int (iI (q:Nat))]) (st := [.int (iI (bz na)), .ref s]) zyX11_isNar lX11_176 h_47 rfl (p_misNar (d := 3) h_47 h_48 h_49 hPL hq) dX11_gatherInto_15 rfl rfl (Nat.le_of_ble_eq_true rfl) (by omega) (Nat.le_of_ble_eq_true rfl) (Nat.le_of_ble_eq_true rfl) (Or.inl (fun _ _ _ q => ZN q)) (fun r9 K2 n9 q9 => ?_)
    obtain ⟨rfl, q9n, q9h⟩ := q9
    have q9n := q9n.symm
    subst q9n
    have q9h := q9h.symm
    subst q9h
    refine w_ifb_eq 25 dX11_gatherInto_18 (by decide) (fun c2 => ?_) (fun c2 => ?_)
    · skip
      refine v_iconst (iI 0) dX11_gatherInto_25 rfl ?_
      refine w_ei (bz false) rfl ?_
      exact j26 false (by rw [← en1, ← en2, c1, c2]; rfl)
    · skip
      refine v_iconst (iI 1) dX11_gatherInto_21 rfl ?_
      refine v_goto 26 dX11_gatherInto_22 (by decide) ?_
      refine w_ei (bz true) rfl ?_
      exact j26 true (by rw [← en1, ← en2, c1, c2]; rfl)
set_option maxHeartbeats 8000000 in
set_option maxRecDepth 100000 in
theorem p_Mclear {d n tc k : Nat} {wd pt tf : Nat → Nat} {Q : Nat → Int} {qn : Nat → Bool} {L : List Nat} {th : Int} {h : zH} (hM : MD h wd pt Q qn tf tc L th) (hk : k < 4) (hd : 2 ≤ d) :
    zM yX11_clear cX11_clear 2 none d 0 0 [.ref 47, .int (iI (k:Nat))] h n (fun r9 h' n' => r9 = none ∧ n' = n ∧ MD h' wd pt (zup Q k 0) (zup qn k false) tf tc L 0 ∧ zFr MOL h h') := by
  obtain ⟨vs, vm, ve, sg, e, rt, at9, sz, dg, pw, tn, fm, h_47, h_48, h_49, ⟨nA, nB, nL, nR, nP, nS, nN, nD, nLo, nUp⟩, h_58, ⟨Q0, n0, hS⟩, hq, h_66, ⟨tx, h_67, hbb, htx⟩, ⟨fg, h_68⟩, ⟨fw, h_73⟩⟩ := id hM
  obtain ⟨s, es⟩ : ∃ s, 78 + 3 * k = s := ⟨_, rfl⟩
  refine zM_of zyX11_clear rfl (Nat.le_of_ble_eq_true rfl) (fun X hX => ?_)
  have fr : zFr MOL h h := zFr.rf
  refine v_aload_n dX11_clear_0 rfl ?_
  refine v_iload_n dX11_clear_1 rfl ?_
  refine v_cS (av := [.int (iI (k:Nat))]) (st := [.ref 47]) zyX11_isQuire lX11_243 (p_isQuireT (d := 1) hk) dX11_clear_2 rfl rfl (Nat.le_of_ble_eq_true rfl) (by omega) (Nat.le_of_ble_eq_true rfl) (Nat.le_of_ble_eq_true rfl) (Or.inl (fun _ _ _ q => ZN q)) (fun r9 K1 n9 q9 => ?_)
  obtain ⟨rfl, q9n, q9h⟩ := q9
  have q9n := q9n.symm
  subst q9n
  have q9h := q9h.symm
  subst q9h
  refine v_iconst (iI 1) dX11_clear_5 rfl ?_
  refine w_ei (bz true) rfl ?_
  refine v_cV (av := [.int (iI (bz true)), .int (iI (bz true))]) (st := []) zyX11_goes lX11_172 h_47 rfl (p_goesT (d := 1) h_47) dX11_clear_6 rfl rfl (Nat.le_of_ble_eq_true rfl) (by omega) (Nat.le_of_ble_eq_true rfl) (Nat.le_of_ble_eq_true rfl) (Or.inl (fun _ _ _ q => ZN q)) (fun r9 G1 n9 q9 => ?_)
  obtain ⟨rfl, q9n, h_47, fr9⟩ := q9
  have q9n := q9n.symm
  subst q9n
  have h_48 := (fr9 48 (by decide)).trans h_48
  have h_49 := (fr9 49 (by decide)).trans h_49
  have h_58 := (fr9 58 (by decide)).trans h_58
  have h_66 := (fr9 66 (by decide)).trans h_66
  have h_67 := (fr9 67 (by decide)).trans h_67
  have h_68 := (fr9 68 (by decide)).trans h_68
  have h_73 := (fr9 73 (by decide)).trans h_73
  have nA := nA.fr fr9 (by decide) (by decide)
  have nB := nB.fr fr9 (by decide) (by decide)
  have nL := nL.fr fr9 (by decide) (by decide)
  have nR := nR.fr fr9 (by decide) (by decide)
  have nP := nP.fr fr9 (by decide) (by decide)
  have nS := nS.fr fr9 (by decide) (by decide)
  have nN := nN.fr fr9 (by decide) (by decide)
  have nD := nD.fr fr9 (by decide) (by decide)
  have nLo := nLo.fr fr9 (by decide) (by decide)
  have nUp := nUp.fr fr9 (by decide) (by decide)
  have hS := hS.fr fr9 (by decide) (by decide) (by decide)
  have hq := hq.fr fr9 (by decide)
  have fr := fr.tr fr9 (by decide)
  refine w_ifb_eq 21 dX11_clear_9 (by decide) (fun c1 => ?_) (fun c1 => ?_)
  · exact absurd c1 (by decide)
  · skip
    refine v_aload_n dX11_clear_12 rfl ?_
    refine v_get fX11_129 dX11_clear_13 h_47 (by decide) rfl ?_
    refine v_iload_n dX11_clear_16 rfl ?_
    refine w_aald dX11_clear_17 h_58 hk es ?_
    have hqk := hq k hk
    rw [es] at hqk
    obtain ⟨h_s, -⟩ := id hqk
    refine v_cV (av := []) (st := []) zyX10_clear lX11_217 h_s rfl (p_sclear (d := 1) hqk) dX11_clear_18 rfl rfl (Nat.le_of_ble_eq_true rfl) (by omega) (Nat.le_of_ble_eq_true rfl) (Nat.le_of_ble_eq_true rfl) (Or.inl (fun _ _ _ q => ZN q)) (fun r9 G2 n9 q9 => ?_)
    obtain ⟨rfl, q9n, hqk, fr8⟩ := q9
    have q9n := q9n.symm
    subst q9n
    rw [← es] at hqk
    have hq := QA.up hq fr8 (by intro x hx; simp at hx; omega) hqk
    have fr8 : zFr [78, 79, 80, 81, 82, 83, 84, 85, 86, 87, 88, 89] G1 G2 := fr8.mono (by intro x hx; simp at hx ⊢; omega)
    have h_47 := (fr8 47 (by decide)).trans h_47
    have h_48 := (fr8 48 (by decide)).trans h_48
    have h_49 := (fr8 49 (by decide)).trans h_49
    have h_58 := (fr8 58 (by decide)).trans h_58
    have h_66 := (fr8 66 (by decide)).trans h_66
    have h_67 := (fr8 67 (by decide)).trans h_67
    have h_68 := (fr8 68 (by decide)).trans h_68
    have h_73 := (fr8 73 (by decide)).trans h_73
    have nA := nA.fr fr8 (by decide) (by decide)
    have nB := nB.fr fr8 (by decide) (by decide)
    have nL := nL.fr fr8 (by decide) (by decide)
    have nR := nR.fr fr8 (by decide) (by decide)
    have nP := nP.fr fr8 (by decide) (by decide)
    have nS := nS.fr fr8 (by decide) (by decide)
    have nN := nN.fr fr8 (by decide) (by decide)
    have nD := nD.fr fr8 (by decide) (by decide)
    have nLo := nLo.fr fr8 (by decide) (by decide)
    have nUp := nUp.fr fr8 (by decide) (by decide)
    have hS := hS.fr fr8 (by decide) (by decide) (by decide)
    have fr := fr.tr fr8 (by decide)
    exact v_vret dX11_clear_21 trivial (Nat.le_of_ble_eq_true rfl) (Nat.le_of_ble_eq_true rfl) ⟨rfl, rfl, ⟨_, _, _, _, _, _, _, _, _, _, _, _, h_47, h_48, h_49, ⟨nA, nB, nL, nR, nP, nS, nN, nD, nLo, nUp⟩, h_58, ⟨_, _, hS⟩, hq, h_66, ⟨_, h_67, hbb, htx⟩, ⟨_, h_68⟩, ⟨_, h_73⟩⟩, fr⟩
set_option maxHeartbeats 8000000 in
set_option maxRecDepth 100000 in
theorem p_Mclearx {d n tc : Nat} {wd pt tf : Nat → Nat} {Q : Nat → Int} {qn : Nat → Bool} {L : List Nat} {th p : Int} {h : zH} (hM : MD h wd pt Q qn tf tc L th) (hr_p : -2147483648 ≤ p ∧ p < 2147483648) (hx : isQ p = false) (hd : 2 ≤ d) :
    zM yX11_clear cX11_clear 2 none d 0 0 [.ref 47, .int (iI p)] h n (fun r9 h' n' => r9 = none ∧ n' = n ∧ MD h' wd pt Q qn tf tc L 1 ∧ zFr MOL h h') := by
  obtain ⟨vs, vm, ve, sg, e, rt, at9, sz, dg, pw, tn, fm, h_47, h_48, h_49, ⟨nA, nB, nL, nR, nP, nS, nN, nD, nLo, nUp⟩, h_58, ⟨Q0, n0, hS⟩, hq, h_66, ⟨tx, h_67, hbb, htx⟩, ⟨fg, h_68⟩, ⟨fw, h_73⟩⟩ := id hM
  refine zM_of zyX11_clear rfl (Nat.le_of_ble_eq_true rfl) (fun X hX => ?_)
  have fr : zFr MOL h h := zFr.rf
  refine v_aload_n dX11_clear_0 rfl ?_
  refine v_iload_n dX11_clear_1 rfl ?_
  refine v_cS (av := [.int (iI p)]) (st := [.ref 47]) zyX11_isQuire lX11_243 (p_isQuire (d := 1) hr_p) dX11_clear_2 rfl rfl (Nat.le_of_ble_eq_true rfl) (by omega) (Nat.le_of_ble_eq_true rfl) (Nat.le_of_ble_eq_true rfl) (Or.inl (fun _ _ _ q => ZN q)) (fun r9 K1 n9 q9 => ?_)
  obtain ⟨rfl, q9n, q9h⟩ := q9
  have q9n := q9n.symm
  subst q9n
  have q9h := q9h.symm
  subst q9h
  refine w_ei (bz (isQ p)) rfl ?_
  refine v_iconst (iI 1) dX11_clear_5 rfl ?_
  refine w_ei (bz true) rfl ?_
  refine v_cV (av := [.int (iI (bz (isQ p))), .int (iI (bz true))]) (st := []) zyX11_goes lX11_172 h_47 rfl (p_goes (d := 1) h_47) dX11_clear_6 rfl rfl (Nat.le_of_ble_eq_true rfl) (by omega) (Nat.le_of_ble_eq_true rfl) (Nat.le_of_ble_eq_true rfl) (Or.inl (fun _ _ _ q => ZN q)) (fun r9 G1 n9 q9 => ?_)
  obtain ⟨rfl, q9n, h_47, fr9⟩ := q9
  have q9n := q9n.symm
  subst q9n
  rw [hx] at h_47
  have h_48 := (fr9 48 (by decide)).trans h_48
  have h_49 := (fr9 49 (by decide)).trans h_49
  have h_58 := (fr9 58 (by decide)).trans h_58
  have h_66 := (fr9 66 (by decide)).trans h_66
  have h_67 := (fr9 67 (by decide)).trans h_67
  have h_68 := (fr9 68 (by decide)).trans h_68
  have h_73 := (fr9 73 (by decide)).trans h_73
  have nA := nA.fr fr9 (by decide) (by decide)
  have nB := nB.fr fr9 (by decide) (by decide)
  have nL := nL.fr fr9 (by decide) (by decide)
  have nR := nR.fr fr9 (by decide) (by decide)
  have nP := nP.fr fr9 (by decide) (by decide)
  have nS := nS.fr fr9 (by decide) (by decide)
  have nN := nN.fr fr9 (by decide) (by decide)
  have nD := nD.fr fr9 (by decide) (by decide)
  have nLo := nLo.fr fr9 (by decide) (by decide)
  have nUp := nUp.fr fr9 (by decide) (by decide)
  have hS := hS.fr fr9 (by decide) (by decide) (by decide)
  have hq := hq.fr fr9 (by decide)
  have fr := fr.tr fr9 (by decide)
  refine w_ifb_eq 21 dX11_clear_9 (by decide) (fun c1 => ?_) (fun c1 => ?_)
  · skip
    exact v_vret dX11_clear_21 trivial (Nat.le_of_ble_eq_true rfl) (Nat.le_of_ble_eq_true rfl) ⟨rfl, rfl, ⟨_, _, _, _, _, _, _, _, _, _, _, _, h_47, h_48, h_49, ⟨nA, nB, nL, nR, nP, nS, nN, nD, nLo, nUp⟩, h_58, ⟨_, _, hS⟩, hq, h_66, ⟨_, h_67, hbb, htx⟩, ⟨_, h_68⟩, ⟨_, h_73⟩⟩, fr⟩
  · rw [hx] at c1; exact absurd c1 (by decide)
/-- what a product does to a quire -/
noncomputable def mgQ (wd pt : Nat → Nat) (Q : Int) (na : Bool) (a1 a2 : Nat) (b : Int) : Int := cond (na || (decide (pt a1 = 2 ^ (wd a1 - 1)) || decide (pt a2 = 2 ^ (wd a2 - 1)))) Q (Q + b * (pvI (pt a1) (wd a1) * pvI (pt a2) (wd a2)))
def mgN (wd pt : Nat → Nat) (na : Bool) (a1 a2 : Nat) : Bool := na || (decide (pt a1 = 2 ^ (wd a1 - 1)) || decide (pt a2 = 2 ^ (wd a2 - 1)))
set_option maxHeartbeats 8000000 in
set_option maxRecDepth 100000 in
theorem p_Mgather {d n tc k a1 a2 : Nat} {wd pt tf : Nat → Nat} {Q : Nat → Int} {qn : Nat → Bool} {L : List Nat} {th : Int} {mi : Bool} {h : zH} (hM : MD h wd pt Q qn tf tc L th) (hPL : PL wd pt) (hk : k < 4) (h1 : a1 < 32) (h2 : a2 < 32) (hb1 : nb (Q k).natAbs ≤ 5000) (hd : 5 ≤ d) :
    zM yX11_gather_ cX11_gather_ 5 none d 0 0 [.ref 47, .int (iI (k:Nat)), .int (iI (a1:Nat)), .int (iI (a2:Nat)), .int (iI (bz mi))] h n (fun r9 h' n' => r9 = none ∧ n' = n ∧ MD h' wd pt (zup Q k (mgQ wd pt (Q k) (qn k) a1 a2 (cond mi (-1) 1))) (zup qn k (mgN wd pt (qn k) a1 a2)) tf tc L 0 ∧ zFr MOL h h') := by
  obtain ⟨vs, vm, ve, sg, e, rt, at9, sz, dg, pw, tn, fm, h_47, h_48, h_49, ⟨nA, nB, nL, nR, nP, nS, nN, nD, nLo, nUp⟩, h_58, ⟨Q0, n0, hS⟩, hq, h_66, ⟨tx, h_67, hbb, htx⟩, ⟨fg, h_68⟩, ⟨fw, h_73⟩⟩ := id hM
  obtain ⟨s, es⟩ : ∃ s, 78 + 3 * k = s := ⟨_, rfl⟩
  refine zM_of zyX11_gather_ rfl (Nat.le_of_ble_eq_true rfl) (fun X hX => ?_)
  have fr : zFr MOL h h := zFr.rf
  refine v_aload_n dX11_gather__0 rfl ?_
  refine v_iload_n dX11_gather__1 rfl ?_
  refine v_cS (av := [.int (iI (k:Nat))]) (st := [.ref 47]) zyX11_isQuire lX11_243 (p_isQuireT (d := 4) hk) dX11_gather__2 rfl rfl (Nat.le_of_ble_eq_true rfl) (by omega) (Nat.le_of_ble_eq_true rfl) (Nat.le_of_ble_eq_true rfl) (Or.inl (fun _ _ _ q => ZN q)) (fun r9 K1 n9 q9 => ?_)
  obtain ⟨rfl, q9n, q9h⟩ := q9
  have q9n := q9n.symm
  subst q9n
  have q9h := q9h.symm
  subst q9h
  refine w_ifb_eq 26 dX11_gather__5 (by decide) (fun y1 => ?_) (fun y1 => ?_)
  · exact absurd y1 (by decide)
  · skip
    refine v_iload_n dX11_gather__8 rfl ?_
    refine v_cS (av := [.int (iI (a1:Nat))]) (st := [.ref 47]) zyX11_isPlace lX11_165 (p_isPlaceT (d := 4) h1) dX11_gather__9 rfl rfl (Nat.le_of_ble_eq_true rfl) (by omega) (Nat.le_of_ble_eq_true rfl) (Nat.le_of_ble_eq_true rfl) (Or.inl (fun _ _ _ q => ZN q)) (fun r9 K2 n9 q9 => ?_)
    obtain ⟨rfl, q9n, q9h⟩ := q9
    have q9n := q9n.symm
    subst q9n
    have q9h := q9h.symm
    subst q9h
    refine w_ifb_eq 26 dX11_gather__12 (by decide) (fun y2 => ?_) (fun y2 => ?_)
    · exact absurd y2 (by decide)
    · skip
      refine v_iload_n dX11_gather__15 rfl ?_
      refine v_cS (av := [.int (iI (a2:Nat))]) (st := [.ref 47]) zyX11_isPlace lX11_165 (p_isPlaceT (d := 4) h2) dX11_gather__16 rfl rfl (Nat.le_of_ble_eq_true rfl) (by omega) (Nat.le_of_ble_eq_true rfl) (Nat.le_of_ble_eq_true rfl) (Or.inl (fun _ _ _ q => ZN q)) (fun r9 K3 n9 q9 => ?_)
      obtain ⟨rfl, q9n, q9h⟩ := q9
      have q9n := q9n.symm
      subst q9n
      have q9h := q9h.symm
      subst q9h
      refine w_ifb_eq 26 dX11_gather__19 (by decide) (fun y3 => ?_) (fun y3 => ?_)
      · exact absurd y3 (by decide)
      · skip
        refine v_iconst (iI 1) dX11_gather__22 rfl ?_
        refine v_goto 27 dX11_gather__23 (by decide) ?_
        refine w_ei (bz true) rfl ?_
        refine v_iconst (iI 1) dX11_gather__27 rfl ?_
        refine w_ei (bz true) rfl ?_
        refine v_cV (av := [.int (iI (bz true)), .int (iI (bz true))]) (st := []) zyX11_goes lX11_172 h_47 rfl (p_goesT (d := 4) h_47) dX11_gather__28 rfl rfl (Nat.le_of_ble_eq_true rfl) (by omega) (Nat.le_of_ble_eq_true rfl) (Nat.le_of_ble_eq_true rfl) (Or.inl (fun _ _ _ q => ZN q)) (fun r9 G1 n9 q9 => ?_)
        obtain ⟨rfl, q9n, h_47, fr9⟩ := q9
        have q9n := q9n.symm
        subst q9n
        have h_48 := (fr9 48 (by decide)).trans h_48
        have h_49 := (fr9 49 (by decide)).trans h_49
        have h_58 := (fr9 58 (by decide)).trans h_58
        have h_66 := (fr9 66 (by decide)).trans h_66
        have h_67 := (fr9 67 (by decide)).trans h_67
        have h_68 := (fr9 68 (by decide)).trans h_68
        have h_73 := (fr9 73 (by decide)).trans h_73
        have nA := nA.fr fr9 (by decide) (by decide)
        have nB := nB.fr fr9 (by decide) (by decide)
        have nL := nL.fr fr9 (by decide) (by decide)
        have nR := nR.fr fr9 (by decide) (by decide)
        have nP := nP.fr fr9 (by decide) (by decide)
        have nS := nS.fr fr9 (by decide) (by decide)
        have nN := nN.fr fr9 (by decide) (by decide)
        have nD := nD.fr fr9 (by decide) (by decide)
        have nLo := nLo.fr fr9 (by decide) (by decide)
        have nUp := nUp.fr fr9 (by decide) (by decide)
        have hS := hS.fr fr9 (by decide) (by decide) (by decide)
        have hq := hq.fr fr9 (by decide)
        have fr := fr.tr fr9 (by decide)
        refine w_ifb_eq 56 dX11_gather__31 (by decide) (fun c1 => ?_) (fun c1 => ?_)
        · exact absurd c1 (by decide)
        · skip
          refine v_aload_n dX11_gather__34 rfl ?_
          refine v_aload_n dX11_gather__35 rfl ?_
          refine v_get fX11_129 dX11_gather__36 h_47 (by decide) rfl ?_
          refine v_iload_n dX11_gather__39 rfl ?_
          refine w_aald dX11_gather__40 h_58 hk es ?_
          have hqk := hq k hk
          rw [es, show 79 + 3 * k = s + 1 from by omega, show 80 + 3 * k = s + 2 from by omega] at hqk
          have fin : ∀ b9 : Int, b9 = cond mi (-1) 1 → (zV X (fun r9 h' n' => r9 = none ∧ n' = n ∧ MD h' wd pt (zup Q k (mgQ wd pt (Q k) (qn k) a1 a2 (cond mi (-1) 1))) (zup qn k (mgN wd pt (qn k) a1 a2)) tf tc L 0 ∧ zFr MOL h h') cX11_gather_ 5 RX11 none d 0 0 53 [(0, .ref 47), (1, .int (iI (k:Nat))), (2, .int (iI (a1:Nat))), (3, .int (iI (a2:Nat))), (4, .int (iI (bz mi)))] [.int (iI b9), .int (iI (a2:Nat)), .int (iI (a1:Nat)), .ref s, .ref 47] G1 n 0 0) := by
            intro b9 eb
            rw [← eb]
            refine v_cV (av := [.ref s, .int (iI (a1:Nat)), .int (iI (a2:Nat)), .int (iI b9)]) (st := []) zyX11_gatherInto lX11_250 h_47 rfl (p_gatherInto (d := 4) h_47 h_48 h_49 hPL h1 h2 hqk nP nS (by unfold gne; omega) (by unfold gq; omega) (by rw [eb]; cases mi <;> simp) hb1 (by decide)) dX11_gather__53 rfl rfl (Nat.le_of_ble_eq_true rfl) (by omega) (Nat.le_of_ble_eq_true rfl) (Nat.le_of_ble_eq_true rfl) (Or.inl (fun _ _ _ q => ZN q)) (fun r9 G2 n9 q9 => ?_)
            obtain ⟨rfl, q9n, ⟨v1, v2, v3, h_47⟩, hqk, nP, nS, fr8⟩ := q9
            have q9n := q9n.symm
            subst q9n
            rw [← es, show 78 + 3 * k + 1 = 79 + 3 * k from by omega, show 78 + 3 * k + 2 = 80 + 3 * k from by omega] at hqk
            have hq := QA.up hq fr8 (by intro x hx; simp at hx; omega) hqk
            have fr8 : zFr [47, 62, 63, 64, 65, 78, 79, 80, 81, 82, 83, 84, 85, 86, 87, 88, 89] G1 G2 := fr8.mono (by intro x hx; simp at hx ⊢; omega)
            have h_48 := (fr8 48 (by decide)).trans h_48
            have h_49 := (fr8 49 (by decide)).trans h_49
            have h_58 := (fr8 58 (by decide)).trans h_58
            have h_66 := (fr8 66 (by decide)).trans h_66
            have h_67 := (fr8 67 (by decide)).trans h_67
            have h_68 := (fr8 68 (by decide)).trans h_68
            have h_73 := (fr8 73 (by decide)).trans h_73
            have nA := nA.fr fr8 (by decide) (by decide)
            have nB := nB.fr fr8 (by decide) (by decide)
            have nL := nL.fr fr8 (by decide) (by decide)
            have nR := nR.fr fr8 (by decide) (by decide)
            have nN := nN.fr fr8 (by decide) (by decide)
            have nD := nD.fr fr8 (by decide) (by decide)
            have nLo := nLo.fr fr8 (by decide) (by decide)
            have nUp := nUp.fr fr8 (by decide) (by decide)
            have hS := hS.fr fr8 (by decide) (by decide) (by decide)
            have fr := fr.tr fr8 (by decide)
            exact v_vret dX11_gather__56 trivial (Nat.le_of_ble_eq_true rfl) (Nat.le_of_ble_eq_true rfl) ⟨rfl, rfl, ⟨_, _, _, _, _, _, _, _, _, _, _, _, h_47, h_48, h_49, ⟨nA, nB, nL, nR, nP, nS, nN, nD, nLo, nUp⟩, h_58, ⟨_, _, hS⟩, hq, h_66, ⟨_, h_67, hbb, htx⟩, ⟨_, h_68⟩, ⟨_, h_73⟩⟩, fr⟩
          refine v_iload_n dX11_gather__41 rfl ?_
          refine v_iload_n dX11_gather__42 rfl ?_
          refine v_iload dX11_gather__43 rfl ?_
          refine w_ifb_eq 52 dX11_gather__45 (by decide) (fun c2 => ?_) (fun c2 => ?_)
          · skip
            refine v_iconst (iI 1) dX11_gather__52 rfl ?_
            exact fin 1 (by rw [c2]; rfl)
          · skip
            refine v_iconst (iI (-1)) dX11_gather__48 rfl ?_
            refine v_goto 53 dX11_gather__49 (by decide) ?_
            exact fin (-1) (by rw [c2]; rfl)
noncomputable def mse (wd : Nat → Nat) (Q : Int) (na : Bool) (a3 : Nat) : Nat := cond na (2 ^ (wd a3 - 1)) (rdR (sgI Q) (CP Q.natAbs 1 (-240) 1) (wd a3))
set_option maxHeartbeats 8000000 in
set_option maxRecDepth 100000 in
theorem p_Msettle {d n tc k a3 : Nat} {wd pt tf : Nat → Nat} {Q : Nat → Int} {qn : Nat → Bool} {L : List Nat} {th : Int} {h : zH} (hM : MD h wd pt Q qn tf tc L th) (hPL : PL wd pt) (hk : k < 4) (h3 : a3 < 32) (hb1 : nb (Q k).natAbs ≤ 5000) (hd : 7 ≤ d) :
    zM yX11_settle cX11_settle 3 none d 0 0 [.ref 47, .int (iI (k:Nat)), .int (iI (a3:Nat))] h n (fun r9 h' n' => r9 = none ∧ n' = n ∧ MD h' wd (zup pt a3 (mse wd (Q k) (qn k) a3)) Q qn tf tc L 0 ∧ zFr MOL h h') := by
  obtain ⟨vs, vm, ve, sg, e, rt, at9, sz, dg, pw, tn, fm, h_47, h_48, h_49, ⟨nA, nB, nL, nR, nP, nS, nN, nD, nLo, nUp⟩, h_58, ⟨Q0, n0, hS⟩, hq, h_66, ⟨tx, h_67, hbb, htx⟩, ⟨fg, h_68⟩, ⟨fw, h_73⟩⟩ := id hM
  have w3 := hPL a3 h3
  obtain ⟨s, es⟩ : ∃ s, 78 + 3 * k = s := ⟨_, rfl⟩
  refine zM_of zyX11_settle rfl (Nat.le_of_ble_eq_true rfl) (fun X hX => ?_)
  have fr : zFr MOL h h := zFr.rf
  refine v_aload_n dX11_settle_0 rfl ?_
  refine v_iload_n dX11_settle_1 rfl ?_
  refine v_cS (av := [.int (iI (k:Nat))]) (st := [.ref 47]) zyX11_isQuire lX11_243 (p_isQuireT (d := 6) hk) dX11_settle_2 rfl rfl (Nat.le_of_ble_eq_true rfl) (by omega) (Nat.le_of_ble_eq_true rfl) (Nat.le_of_ble_eq_true rfl) (Or.inl (fun _ _ _ q => ZN q)) (fun r9 K1 n9 q9 => ?_)
  obtain ⟨rfl, q9n, q9h⟩ := q9
  have q9n := q9n.symm
  subst q9n
  have q9h := q9h.symm
  subst q9h
  refine w_ifb_eq 19 dX11_settle_5 (by decide) (fun y1 => ?_) (fun y1 => ?_)
  · exact absurd y1 (by decide)
  · skip
    refine v_iload_n dX11_settle_8 rfl ?_
    refine v_cS (av := [.int (iI (a3:Nat))]) (st := [.ref 47]) zyX11_isPlace lX11_165 (p_isPlaceT (d := 6) h3) dX11_settle_9 rfl rfl (Nat.le_of_ble_eq_true rfl) (by omega) (Nat.le_of_ble_eq_true rfl) (Nat.le_of_ble_eq_true rfl) (Or.inl (fun _ _ _ q => ZN q)) (fun r9 K2 n9 q9 => ?_)
    obtain ⟨rfl, q9n, q9h⟩ := q9
    have q9n := q9n.symm
    subst q9n
    have q9h := q9h.symm
    subst q9h
    refine w_ifb_eq 19 dX11_settle_12 (by decide) (fun y2 => ?_) (fun y2 => ?_)
    · exact absurd y2 (by decide)
    · skip
      refine v_iconst (iI 1) dX11_settle_15 rfl ?_
      refine v_goto 20 dX11_settle_16 (by decide) ?_
      refine w_ei (bz true) rfl ?_
      refine v_iconst (iI 1) dX11_settle_20 rfl ?_
      refine w_ei (bz true) rfl ?_
      refine v_cV (av := [.int (iI (bz true)), .int (iI (bz true))]) (st := []) zyX11_goes lX11_172 h_47 rfl (p_goesT (d := 6) h_47) dX11_settle_21 rfl rfl (Nat.le_of_ble_eq_true rfl) (by omega) (Nat.le_of_ble_eq_true rfl) (Nat.le_of_ble_eq_true rfl) (Or.inl (fun _ _ _ q => ZN q)) (fun r9 G1 n9 q9 => ?_)
      obtain ⟨rfl, q9n, h_47, fr9⟩ := q9
      have q9n := q9n.symm
      subst q9n
      have h_48 := (fr9 48 (by decide)).trans h_48
      have h_49 := (fr9 49 (by decide)).trans h_49
      have h_58 := (fr9 58 (by decide)).trans h_58
      have h_66 := (fr9 66 (by decide)).trans h_66
      have h_67 := (fr9 67 (by decide)).trans h_67
      have h_68 := (fr9 68 (by decide)).trans h_68
      have h_73 := (fr9 73 (by decide)).trans h_73
      have nA := nA.fr fr9 (by decide) (by decide)
      have nB := nB.fr fr9 (by decide) (by decide)
      have nL := nL.fr fr9 (by decide) (by decide)
      have nR := nR.fr fr9 (by decide) (by decide)
      have nP := nP.fr fr9 (by decide) (by decide)
      have nS := nS.fr fr9 (by decide) (by decide)
      have nN := nN.fr fr9 (by decide) (by decide)
      have nD := nD.fr fr9 (by decide) (by decide)
      have nLo := nLo.fr fr9 (by decide) (by decide)
      have nUp := nUp.fr fr9 (by decide) (by decide)
      have hS := hS.fr fr9 (by decide) (by decide) (by decide)
      have hq := hq.fr fr9 (by decide)
      have fr := fr.tr fr9 (by decide)
      have hqk := hq k hk
      rw [es, show 79 + 3 * k = s + 1 from by omega, show 80 + 3 * k = s + 2 from by omega] at hqk
      obtain ⟨h_s, -⟩ := id hqk
      refine w_ifb_ne 28 dX11_settle_24 (by decide) (fun c1 => ?_) (fun c1 => ?_)
      · skip
        refine v_aload_n dX11_settle_28 rfl ?_
        refine v_get fX11_129 dX11_settle_29 h_47 (by decide) rfl ?_
        refine v_iload_n dX11_settle_32 rfl ?_
        refine w_aald dX11_settle_33 h_58 hk es ?_
        refine v_getN fX11_246 dX11_settle_34 h_s (by decide) rfl ?_
        refine w_ifb_eq 46 dX11_settle_37 (by decide) (fun c2 => ?_) (fun c2 => ?_)
        · skip
          refine v_aload_n dX11_settle_46 rfl ?_
          refine v_aload_n dX11_settle_47 rfl ?_
          refine v_get fX11_129 dX11_settle_48 h_47 (by decide) rfl ?_
          refine v_iload_n dX11_settle_51 rfl ?_
          refine w_aald dX11_settle_52 h_58 hk es ?_
          refine v_cV (av := [.ref s]) (st := []) zyX11_takeSum lX11_228 h_47 rfl (p_takeSum (d := 6) h_47 hqk nA nB (by omega) (by decide)) dX11_settle_53 rfl rfl (Nat.le_of_ble_eq_true rfl) (by omega) (Nat.le_of_ble_eq_true rfl) (Nat.le_of_ble_eq_true rfl) (Or.inl (fun _ _ _ q => ZN q)) (fun r9 G2 n9 q9 => ?_)
          obtain ⟨rfl, q9n, h_47, hA, hB, fr8⟩ := q9
          have q9n := q9n.symm
          subst q9n
          have h_48 := (fr8 48 (by decide)).trans h_48
          have h_49 := (fr8 49 (by decide)).trans h_49
          have h_58 := (fr8 58 (by decide)).trans h_58
          have h_66 := (fr8 66 (by decide)).trans h_66
          have h_67 := (fr8 67 (by decide)).trans h_67
          have h_68 := (fr8 68 (by decide)).trans h_68
          have h_73 := (fr8 73 (by decide)).trans h_73
          have nL := nL.fr fr8 (by decide) (by decide)
          have nR := nR.fr fr8 (by decide) (by decide)
          have nP := nP.fr fr8 (by decide) (by decide)
          have nS := nS.fr fr8 (by decide) (by decide)
          have nN := nN.fr fr8 (by decide) (by decide)
          have nD := nD.fr fr8 (by decide) (by decide)
          have nLo := nLo.fr fr8 (by decide) (by decide)
          have nUp := nUp.fr fr8 (by decide) (by decide)
          have hS := hS.fr fr8 (by decide) (by decide) (by decide)
          have hq := hq.fr fr8 (by decide)
          have fr := fr.tr fr8 (by decide)
          have hSg := sgI_r (Q k)
          refine v_aload_n dX11_settle_56 rfl ?_
          refine v_iload_n dX11_settle_57 rfl ?_
          refine v_cV (av := [.int (iI (a3:Nat))]) (st := []) zyX11_become lX11_185 h_47 rfl (p_become (d := 6) (rt := 1) h_47 h_48 h_49 hA hB nL nR hSg (fun z => sgI_ne z) (by omega) (by decide) (by decide) (by decide) (by decide) h3 ⟨w3.1, w3.2.1⟩ (by decide)) dX11_settle_58 rfl rfl (Nat.le_of_ble_eq_true rfl) (by omega) (Nat.le_of_ble_eq_true rfl) (Nat.le_of_ble_eq_true rfl) (Or.inl (fun _ _ _ q => ZN q)) (fun r9 G6 n9 q9 => ?_)
          obtain ⟨rfl, q9n, ⟨v7, v8, v9, h_47⟩, h_49, nL, nR, fr4⟩ := q9
          have q9n := q9n.symm
          subst q9n
          have nA := hA.ns
          have nB := hB.ns
          have h_48 := (fr4 48 (by decide)).trans h_48
          have h_58 := (fr4 58 (by decide)).trans h_58
          have h_66 := (fr4 66 (by decide)).trans h_66
          have h_67 := (fr4 67 (by decide)).trans h_67
          have h_68 := (fr4 68 (by decide)).trans h_68
          have h_73 := (fr4 73 (by decide)).trans h_73
          have nA := nA.fr fr4 (by decide) (by decide)
          have nB := nB.fr fr4 (by decide) (by decide)
          have nP := nP.fr fr4 (by decide) (by decide)
          have nS := nS.fr fr4 (by decide) (by decide)
          have nN := nN.fr fr4 (by decide) (by decide)
          have nD := nD.fr fr4 (by decide) (by decide)
          have nLo := nLo.fr fr4 (by decide) (by decide)
          have nUp := nUp.fr fr4 (by decide) (by decide)
          have hS := hS.fr fr4 (by decide) (by decide) (by decide)
          have hq := hq.fr fr4 (by decide)
          have fr := fr.tr fr4 (by decide)
          exact v_vret dX11_settle_61 trivial (Nat.le_of_ble_eq_true rfl) (Nat.le_of_ble_eq_true rfl) ⟨rfl, rfl, by unfold mse; rw [c2, cond_false]; exact ⟨_, _, _, _, _, _, _, _, _, _, _, _, h_47, h_48, h_49, ⟨nA, nB, nL, nR, nP, nS, nN, nD, nLo, nUp⟩, h_58, ⟨_, _, hS⟩, hq, h_66, ⟨_, h_67, hbb, htx⟩, ⟨_, h_68⟩, ⟨_, h_73⟩⟩, fr⟩
        · skip
          refine v_aload_n dX11_settle_40 rfl ?_
          refine v_iload_n dX11_settle_41 rfl ?_
          refine v_cV (av := [.int (iI (a3:Nat))]) (st := []) zyX11_becomeNar lX11_182 h_47 rfl (p_becomeNar (d := 6) h_47 h_48 h_49 h3 ⟨w3.1, w3.2.1⟩) dX11_settle_42 rfl rfl (Nat.le_of_ble_eq_true rfl) (by omega) (Nat.le_of_ble_eq_true rfl) (Nat.le_of_ble_eq_true rfl) (Or.inl (fun _ _ _ q => ZN q)) (fun r9 G9 n9 q9 => ?_)
          obtain ⟨rfl, q9n, h_49, fr8⟩ := q9
          have q9n := q9n.symm
          subst q9n
          have h_47 := (fr8 47 (by decide)).trans h_47
          have h_48 := (fr8 48 (by decide)).trans h_48
          have h_58 := (fr8 58 (by decide)).trans h_58
          have h_66 := (fr8 66 (by decide)).trans h_66
          have h_67 := (fr8 67 (by decide)).trans h_67
          have h_68 := (fr8 68 (by decide)).trans h_68
          have h_73 := (fr8 73 (by decide)).trans h_73
          have nA := nA.fr fr8 (by decide) (by decide)
          have nB := nB.fr fr8 (by decide) (by decide)
          have nL := nL.fr fr8 (by decide) (by decide)
          have nR := nR.fr fr8 (by decide) (by decide)
          have nP := nP.fr fr8 (by decide) (by decide)
          have nS := nS.fr fr8 (by decide) (by decide)
          have nN := nN.fr fr8 (by decide) (by decide)
          have nD := nD.fr fr8 (by decide) (by decide)
          have nLo := nLo.fr fr8 (by decide) (by decide)
          have nUp := nUp.fr fr8 (by decide) (by decide)
          have hS := hS.fr fr8 (by decide) (by decide) (by decide)
          have hq := hq.fr fr8 (by decide)
          have fr := fr.tr fr8 (by decide)
          exact v_vret dX11_settle_45 trivial (Nat.le_of_ble_eq_true rfl) (Nat.le_of_ble_eq_true rfl) ⟨rfl, rfl, by unfold mse; rw [c2, cond_true]; exact ⟨_, _, _, _, _, _, _, _, _, _, _, _, h_47, h_48, h_49, ⟨nA, nB, nL, nR, nP, nS, nN, nD, nLo, nUp⟩, h_58, ⟨_, _, hS⟩, hq, h_66, ⟨_, h_67, hbb, htx⟩, ⟨_, h_68⟩, ⟨_, h_73⟩⟩, fr⟩
      · exact absurd c1 (by decide)
