/-! The reference: dot, image, feed, letter -/
theorem zup_zup {α : Type} (f : Nat → α) (k : Nat) (x y : α) : zup (zup f k x) k y = zup f k y := funext fun j => by
  unfold zup; split <;> rfl
theorem zup_id {α : Type} (f : Nat → α) (k : Nat) : zup f k (f k) = f := funext fun j => by
  unfold zup; split
  · rename_i e; rw [e]
  · rfl
/-- what many products do to a quire -/
noncomputable def mdt (wd pt : Nat → Nat) (Q : Int) (na : Bool) (p q : Nat) : Nat → Int × Bool
  | 0 => (Q, na)
  | i + 1 => (mgQ wd pt (mdt wd pt Q na p q i).1 (mdt wd pt Q na p q i).2 (p + i) (q + i) 1, mgN wd pt (mdt wd pt Q na p q i).2 (p + i) (q + i))
theorem mg_b {wd pt : Nat → Nat} {Q b : Int} {na : Bool} {p q k : Nat} (hPL : PL wd pt) (hp : p < 32) (hq : q < 32) (hb : b = 1 ∨ b = -1) (hk : nb Q.natAbs ≤ k) (hk2 : 621 ≤ k) : nb (mgQ wd pt Q na p q b).natAbs ≤ k + 1 := by
  have w1 := hPL p hp
  have w2 := hPL q hq
  unfold mgQ
  by_cases x1 : pt p = 2 ^ (wd p - 1)
  · rw [decide_eq_true x1, Bool.true_or, Bool.or_true, cond_true]; omega
  · by_cases x2 : pt q = 2 ^ (wd q - 1)
    · rw [decide_eq_true x2, Bool.or_true, Bool.or_true, cond_true]; omega
    · rw [decide_eq_false x1, decide_eq_false x2]
      cases na
      · show nb (Q + b * (pvI (pt p) (wd p) * pvI (pt q) (wd q))).natAbs ≤ k + 1
        have b1 := pv_b ⟨w1.1, w1.2.1⟩ w1.2.2 x1
        have b2 := pv_b ⟨w2.1, w2.2.1⟩ w2.2.2 x2
        have b3 := nb_mulZ (x := pvI (pt p) (wd p)) (y := pvI (pt q) (wd q))
        have b4 := nb_mulZ (x := b) (y := pvI (pt p) (wd p) * pvI (pt q) (wd q))
        rw [nb_one hb] at b4
        exact nb_addZ hk (by omega)
      · show nb Q.natAbs ≤ k + 1
        omega
set_option maxHeartbeats 8000000 in
set_option maxRecDepth 100000 in
theorem p_Mdot {d n tc k a1 a2 m : Nat} {wd pt tf : Nat → Nat} {Q : Nat → Int} {qn : Nat → Bool} {L : List Nat} {th : Int} {h : zH} (hM : MD h wd pt Q qn tf tc L th) (hPL : PL wd pt) (hk : k < 4) (h1 : a1 < 32) (h2 : a2 < 32) (hm : m ≤ 32) (hg : m = 0 ∨ (a1 + m ≤ 32 ∧ a2 + m ≤ 32)) (hb1 : nb (Q k).natAbs ≤ 700) (hd : 6 ≤ d) :
    zM yX11_dot cX11_dot 6 none d 0 0 [.ref 47, .int (iI (k:Nat)), .int (iI (a1:Nat)), .int (iI (a2:Nat)), .int (iI (m:Nat))] h n (fun r9 h' n' => r9 = none ∧ n' = n ∧ MD h' wd pt (zup Q k (mdt wd pt (Q k) (qn k) a1 a2 m).1) (zup qn k (mdt wd pt (Q k) (qn k) a1 a2 m).2) tf tc L 0 ∧ zFr MOL h h') := by
  obtain ⟨vs, vm, ve, sg, e, rt, at9, sz, dg, pw, tn, fm, h_47, h_48, h_49, ⟨nA, nB, nL, nR, nP, nS, nN, nD, nLo, nUp⟩, h_58, ⟨Q0, n0, hS⟩, hq, h_66, ⟨tx, h_67, hbb, htx⟩, ⟨fg, h_68⟩, ⟨fw, h_73⟩⟩ := id hM
  refine zM_of zyX11_dot rfl (Nat.le_of_ble_eq_true rfl) (fun X hX => ?_)
  have fr : zFr MOL h h := zFr.rf
  have loop : ∀ (j i : Nat) (H : zH), i + j = m → MD H wd pt (zup Q k (mdt wd pt (Q k) (qn k) a1 a2 i).1) (zup qn k (mdt wd pt (Q k) (qn k) a1 a2 i).2) tf tc L 0 → nb (mdt wd pt (Q k) (qn k) a1 a2 i).1.natAbs ≤ 700 + i → zFr MOL h H → (zV X (fun r9 h' n' => r9 = none ∧ n' = n ∧ MD h' wd pt (zup Q k (mdt wd pt (Q k) (qn k) a1 a2 m).1) (zup qn k (mdt wd pt (Q k) (qn k) a1 a2 m).2) tf tc L 0 ∧ zFr MOL h h') cX11_dot 6 RX11 none d 0 0 83 [(0, .ref 47), (1, .int (iI (k:Nat))), (2, .int (iI (a1:Nat))), (3, .int (iI (a2:Nat))), (4, .int (iI (m:Nat))), (5, .int (iI (i:Nat)))] [] H n 0 0) := by
    intro j
    induction j with
    | zero =>
      intro i H hj hM hb fr
      have hi : i = m := by omega
      subst hi
      refine v_iload dX11_dot_83 rfl ?_
      refine v_iload dX11_dot_85 rfl ?_
      refine w_icmp_ge 115 dX11_dot_87 (by decide) (by omega) (by omega) (fun c1 => ?_) (fun c1 => ?_)
      · skip
        exact v_vret dX11_dot_115 trivial (Nat.le_of_ble_eq_true rfl) (Nat.le_of_ble_eq_true rfl) ⟨rfl, rfl, hM, fr⟩
      · exact absurd c1 (by omega)
    | succ j ih =>
      intro i H hj hM hb fr
      obtain ⟨vs, vm, ve, sg, e, rt, at9, sz, dg, pw, tn, fm, h_47, h_48, h_49, ⟨nA, nB, nL, nR, nP, nS, nN, nD, nLo, nUp⟩, h_58, ⟨Q0, n0, hS⟩, hq, h_66, ⟨tx, h_67, hbb, htx⟩, ⟨fg, h_68⟩, ⟨fw, h_73⟩⟩ := id hM
      refine v_iload dX11_dot_83 rfl ?_
      refine v_iload dX11_dot_85 rfl ?_
      refine w_icmp_ge 115 dX11_dot_87 (by decide) (by omega) (by omega) (fun c1 => ?_) (fun c1 => ?_)
      · exact absurd c1 (by omega)
      · skip
        refine v_aload_n dX11_dot_90 rfl ?_
        refine v_aload_n dX11_dot_91 rfl ?_
        refine v_get fX11_129 dX11_dot_92 h_47 (by decide) rfl ?_
        refine v_iload_n dX11_dot_95 rfl ?_
        refine w_aald dX11_dot_96 h_58 hk (s := 78 + 3 * k) rfl ?_
        refine v_iload_n dX11_dot_97 rfl ?_
        refine v_iload dX11_dot_98 rfl ?_
        refine w_iadd dX11_dot_100 ?_
        refine w_ei (a1 + i:Nat) (by omega) ?_
        refine v_iload_n dX11_dot_101 rfl ?_
        refine v_iload dX11_dot_102 rfl ?_
        refine w_iadd dX11_dot_104 ?_
        refine w_ei (a2 + i:Nat) (by omega) ?_
        refine v_iconst (iI 1) dX11_dot_105 rfl ?_
        have hqk := hq k hk
        rw [zup_same, zup_same, show 79 + 3 * k = 78 + 3 * k + 1 from by omega, show 80 + 3 * k = 78 + 3 * k + 2 from by omega] at hqk
        refine v_cV (av := [.ref (78 + 3 * k), .int (iI (a1 + i:Nat)), .int (iI (a2 + i:Nat)), .int (iI 1)]) (st := []) zyX11_gatherInto lX11_250 h_47 rfl (p_gatherInto (d := 5) h_47 h_48 h_49 hPL (show a1 + i < 32 by omega) (show a2 + i < 32 by omega) hqk nP nS (by unfold gne; omega) (by unfold gq; omega) (Or.inl rfl) (by omega) (by decide)) dX11_dot_106 rfl rfl (Nat.le_of_ble_eq_true rfl) (by omega) (Nat.le_of_ble_eq_true rfl) (Nat.le_of_ble_eq_true rfl) (Or.inl (fun _ _ _ q => ZN q)) (fun r9 G2 n9 q9 => ?_)
        obtain ⟨rfl, q9n, ⟨v1, v2, v3, h_47⟩, hqk, nP, nS, fr8⟩ := q9
        have q9n := q9n.symm
        subst q9n
        rw [show 78 + 3 * k + 1 = 79 + 3 * k from by omega, show 78 + 3 * k + 2 = 80 + 3 * k from by omega] at hqk
        have hq := QA.up hq fr8 (by intro x hx; simp at hx; omega) hqk
        rw [zup_zup, zup_zup] at hq
        have fr8 : zFr [47, 62, 63, 64, 65, 78, 79, 80, 81, 82, 83, 84, 85, 86, 87, 88, 89] H G2 := fr8.mono (by intro x hx; simp at hx ⊢; omega)
        have h_48 := (fr8 48 (by decide)).trans h_48
        have h_49 := (fr8 49 (by decide)).trans h_49
        have h_58 := (fr8 58 (by decide)).trans h_58
        have h_66 := (fr8 66 (by decide)).trans h_66
        have h_67 := (fr8 67 (by decide)).trans h_67
        have h_68 := (fr8 68 (by decide)).trans h_68
        have h_73 := (fr8 73 (by decide)).trans h_73
        have nA := nA.fr fr8 (by decide) (by decide)
        have nB := nB.fr fr8 (by decide) (by decide)
        have nL := nL.fr fr8 (by decide) (by decide)
        have nR := nR.fr fr8 (by decide) (by decide)
        have nN := nN.fr fr8 (by decide) (by decide)
        have nD := nD.fr fr8 (by decide) (by decide)
        have nLo := nLo.fr fr8 (by decide) (by decide)
        have nUp := nUp.fr fr8 (by decide) (by decide)
        have hS := hS.fr fr8 (by decide) (by decide) (by decide)
        have fr := fr.tr fr8 (by decide)
        refine w_iinc (lv' := [(5, .int (iI ((i:Nat) + 1))), (0, .ref 47), (1, .int (iI (k:Nat))), (2, .int (iI (a1:Nat))), (3, .int (iI (a2:Nat))), (4, .int (iI (m:Nat)))]) dX11_dot_109 rfl (by decide) rfl ?_
        refine w_sub (lv2 := [(0, .ref 47), (1, .int (iI (k:Nat))), (2, .int (iI (a1:Nat))), (3, .int (iI (a2:Nat))), (4, .int (iI (m:Nat))), (5, .int (iI ((i:Nat) + 1)))]) [1, 2, 3, 4, 5, 0] rfl ?_
        refine v_goto 83 dX11_dot_112 (by decide) ?_
        have e1 : (i : Int) + 1 = ((i + 1 : Nat) : Int) := by omega
        rw [e1]
        exact ih (i + 1) G2 (by omega) ⟨_, _, _, _, _, _, _, _, _, _, _, _, h_47, h_48, h_49, ⟨nA, nB, nL, nR, nP, nS, nN, nD, nLo, nUp⟩, h_58, ⟨_, _, hS⟩, hq, h_66, ⟨_, h_67, hbb, htx⟩, ⟨_, h_68⟩, ⟨_, h_73⟩⟩ (mg_b (k := 700 + i) hPL (by omega) (by omega) (Or.inl rfl) hb (by omega)) fr
  refine v_aload_n dX11_dot_0 rfl ?_
  refine v_iload_n dX11_dot_1 rfl ?_
  refine v_cS (av := [.int (iI (k:Nat))]) (st := [.ref 47]) zyX11_isQuire lX11_243 (p_isQuireT (d := 5) hk) dX11_dot_2 rfl rfl (Nat.le_of_ble_eq_true rfl) (by omega) (Nat.le_of_ble_eq_true rfl) (Nat.le_of_ble_eq_true rfl) (Or.inl (fun _ _ _ q => ZN q)) (fun r9 K1 n9 q9 => ?_)
  obtain ⟨rfl, q9n, q9h⟩ := q9
  have q9n := q9n.symm
  subst q9n
  have q9h := q9h.symm
  subst q9h
  refine w_ifb_eq 26 dX11_dot_5 (by decide) (fun y1 => ?_) (fun y1 => ?_)
  · exact absurd y1 (by decide)
  · skip
    refine v_iload_n dX11_dot_8 rfl ?_
    refine v_cS (av := [.int (iI (a1:Nat))]) (st := [.ref 47]) zyX11_isPlace lX11_165 (p_isPlaceT (d := 5) h1) dX11_dot_9 rfl rfl (Nat.le_of_ble_eq_true rfl) (by omega) (Nat.le_of_ble_eq_true rfl) (Nat.le_of_ble_eq_true rfl) (Or.inl (fun _ _ _ q => ZN q)) (fun r9 K2 n9 q9 => ?_)
    obtain ⟨rfl, q9n, q9h⟩ := q9
    have q9n := q9n.symm
    subst q9n
    have q9h := q9h.symm
    subst q9h
    refine w_ifb_eq 26 dX11_dot_12 (by decide) (fun y2 => ?_) (fun y2 => ?_)
    · exact absurd y2 (by decide)
    · skip
      refine v_iload_n dX11_dot_15 rfl ?_
      refine v_cS (av := [.int (iI (a2:Nat))]) (st := [.ref 47]) zyX11_isPlace lX11_165 (p_isPlaceT (d := 5) h2) dX11_dot_16 rfl rfl (Nat.le_of_ble_eq_true rfl) (by omega) (Nat.le_of_ble_eq_true rfl) (Nat.le_of_ble_eq_true rfl) (Or.inl (fun _ _ _ q => ZN q)) (fun r9 K3 n9 q9 => ?_)
      obtain ⟨rfl, q9n, q9h⟩ := q9
      have q9n := q9n.symm
      subst q9n
      have q9h := q9h.symm
      subst q9h
      refine w_ifb_eq 26 dX11_dot_19 (by decide) (fun y3 => ?_) (fun y3 => ?_)
      · exact absurd y3 (by decide)
      · skip
        refine v_iconst (iI 1) dX11_dot_22 rfl ?_
        refine v_goto 27 dX11_dot_23 (by decide) ?_
        refine w_ei (bz true) rfl ?_
        refine v_iload dX11_dot_27 rfl ?_
        refine w_if_lt 43 dX11_dot_29 (by decide) (by omega) (fun y4 => ?_) (fun y4 => ?_)
        · exact absurd y4 (by omega)
        · skip
          refine v_iload dX11_dot_32 rfl ?_
          refine v_bipush (iI 32) dX11_dot_34 rfl ?_
          refine w_icmp_gt 43 dX11_dot_36 (by decide) (by omega) (by decide) (fun y5 => ?_) (fun y5 => ?_)
          · exact absurd y5 (by omega)
          · skip
            refine v_iconst (iI 1) dX11_dot_39 rfl ?_
            refine v_goto 44 dX11_dot_40 (by decide) ?_
            refine w_ei (bz true) rfl ?_
            refine v_cV (av := [.int (iI (bz true)), .int (iI (bz true))]) (st := []) zyX11_goes lX11_172 h_47 rfl (p_goesT (d := 5) h_47) dX11_dot_44 rfl rfl (Nat.le_of_ble_eq_true rfl) (by omega) (Nat.le_of_ble_eq_true rfl) (Nat.le_of_ble_eq_true rfl) (Or.inl (fun _ _ _ q => ZN q)) (fun r9 G1 n9 q9 => ?_)
            obtain ⟨rfl, q9n, h_47, fr9⟩ := q9
            have q9n := q9n.symm
            subst q9n
            have h_48 := (fr9 48 (by decide)).trans h_48
            have h_49 := (fr9 49 (by decide)).trans h_49
            have h_58 := (fr9 58 (by decide)).trans h_58
            have h_66 := (fr9 66 (by decide)).trans h_66
            have h_67 := (fr9 67 (by decide)).trans h_67
            have h_68 := (fr9 68 (by decide)).trans h_68
            have h_73 := (fr9 73 (by decide)).trans h_73
            have nA := nA.fr fr9 (by decide) (by decide)
            have nB := nB.fr fr9 (by decide) (by decide)
            have nL := nL.fr fr9 (by decide) (by decide)
            have nR := nR.fr fr9 (by decide) (by decide)
            have nP := nP.fr fr9 (by decide) (by decide)
            have nS := nS.fr fr9 (by decide) (by decide)
            have nN := nN.fr fr9 (by decide) (by decide)
            have nD := nD.fr fr9 (by decide) (by decide)
            have nLo := nLo.fr fr9 (by decide) (by decide)
            have nUp := nUp.fr fr9 (by decide) (by decide)
            have hS := hS.fr fr9 (by decide) (by decide) (by decide)
            have hq := hq.fr fr9 (by decide)
            have fr := fr.tr fr9 (by decide)
            refine w_ifb_ne 51 dX11_dot_47 (by decide) (fun c1 => ?_) (fun c1 => ?_)
            · have fin : (zV X (fun r9 h' n' => r9 = none ∧ n' = n ∧ MD h' wd pt (zup Q k (mdt wd pt (Q k) (qn k) a1 a2 m).1) (zup qn k (mdt wd pt (Q k) (qn k) a1 a2 m).2) tf tc L 0 ∧ zFr MOL h h') cX11_dot 6 RX11 none d 0 0 80 [(0, .ref 47), (1, .int (iI (k:Nat))), (2, .int (iI (a1:Nat))), (3, .int (iI (a2:Nat))), (4, .int (iI (m:Nat)))] [] G1 n 0 0) := by
                refine v_iconst (iI 0) dX11_dot_80 rfl ?_
                refine v_istore (i := 5) (lv' := [(5, .int (iI 0)), (0, .ref 47), (1, .int (iI (k:Nat))), (2, .int (iI (a1:Nat))), (3, .int (iI (a2:Nat))), (4, .int (iI (m:Nat)))]) dX11_dot_81 (by decide) rfl ?_
                refine w_sub (lv2 := [(0, .ref 47), (1, .int (iI (k:Nat))), (2, .int (iI (a1:Nat))), (3, .int (iI (a2:Nat))), (4, .int (iI (m:Nat))), (5, .int (iI 0))]) [1, 2, 3, 4, 5, 0] rfl ?_
                exact loop m 0 G1 (by omega) (by rw [show (mdt wd pt (Q k) (qn k) a1 a2 0).1 = Q k from rfl, show (mdt wd pt (Q k) (qn k) a1 a2 0).2 = qn k from rfl, zup_id, zup_id]; exact ⟨_, _, _, _, _, _, _, _, _, _, _, _, h_47, h_48, h_49, ⟨nA, nB, nL, nR, nP, nS, nN, nD, nLo, nUp⟩, h_58, ⟨_, _, hS⟩, hq, h_66, ⟨_, h_67, hbb, htx⟩, ⟨_, h_68⟩, ⟨_, h_73⟩⟩) hb1 fr
              refine v_iload dX11_dot_51 rfl ?_
              refine w_if_le 80 dX11_dot_53 (by decide) (by omega) (fun z1 => ?_) (fun z1 => ?_)
              · exact fin
              · skip
                refine v_iload_n dX11_dot_56 rfl ?_
                refine v_iload dX11_dot_57 rfl ?_
                refine w_iadd dX11_dot_59 ?_
                refine v_bipush (iI 32) dX11_dot_60 rfl ?_
                refine w_icmp_gt 74 dX11_dot_62 (by decide) (by omega) (by decide) (fun z2 => ?_) (fun z2 => ?_)
                · exact absurd z2 (by omega)
                · skip
                  refine v_iload_n dX11_dot_65 rfl ?_
                  refine v_iload dX11_dot_66 rfl ?_
                  refine w_iadd dX11_dot_68 ?_
                  refine v_bipush (iI 32) dX11_dot_69 rfl ?_
                  refine w_icmp_le 80 dX11_dot_71 (by decide) (by omega) (by decide) (fun z3 => ?_) (fun z3 => ?_)
                  · exact fin
                  · exact absurd z3 (by omega)
            · exact absurd c1 (by decide)
set_option maxHeartbeats 8000000 in
set_option maxRecDepth 100000 in
theorem p_Mdoty {d n tc k a1 a2 m : Nat} {wd pt tf : Nat → Nat} {Q : Nat → Int} {qn : Nat → Bool} {L : List Nat} {th : Int} {h : zH} (hM : MD h wd pt Q qn tf tc L th) (hk : k < 4) (h1 : a1 < 32) (h2 : a2 < 32) (hm : m ≤ 32) (hg : ¬ (m = 0 ∨ (a1 + m ≤ 32 ∧ a2 + m ≤ 32))) (hd : 6 ≤ d) :
    zM yX11_dot cX11_dot 6 none d 0 0 [.ref 47, .int (iI (k:Nat)), .int (iI (a1:Nat)), .int (iI (a2:Nat)), .int (iI (m:Nat))] h n (fun r9 h' n' => r9 = none ∧ n' = n ∧ MD h' wd pt Q qn tf tc L 1 ∧ zFr MOL h h') := by
  obtain ⟨vs, vm, ve, sg, e, rt, at9, sz, dg, pw, tn, fm, h_47, h_48, h_49, ⟨nA, nB, nL, nR, nP, nS, nN, nD, nLo, nUp⟩, h_58, ⟨Q0, n0, hS⟩, hq, h_66, ⟨tx, h_67, hbb, htx⟩, ⟨fg, h_68⟩, ⟨fw, h_73⟩⟩ := id hM
  refine zM_of zyX11_dot rfl (Nat.le_of_ble_eq_true rfl) (fun X hX => ?_)
  have fr : zFr MOL h h := zFr.rf
  refine v_aload_n dX11_dot_0 rfl ?_
  refine v_iload_n dX11_dot_1 rfl ?_
  refine v_cS (av := [.int (iI (k:Nat))]) (st := [.ref 47]) zyX11_isQuire lX11_243 (p_isQuireT (d := 5) hk) dX11_dot_2 rfl rfl (Nat.le_of_ble_eq_true rfl) (by omega) (Nat.le_of_ble_eq_true rfl) (Nat.le_of_ble_eq_true rfl) (Or.inl (fun _ _ _ q => ZN q)) (fun r9 K1 n9 q9 => ?_)
  obtain ⟨rfl, q9n, q9h⟩ := q9
  have q9n := q9n.symm
  subst q9n
  have q9h := q9h.symm
  subst q9h
  refine w_ifb_eq 26 dX11_dot_5 (by decide) (fun y1 => ?_) (fun y1 => ?_)
  · exact absurd y1 (by decide)
  · skip
    refine v_iload_n dX11_dot_8 rfl ?_
    refine v_cS (av := [.int (iI (a1:Nat))]) (st := [.ref 47]) zyX11_isPlace lX11_165 (p_isPlaceT (d := 5) h1) dX11_dot_9 rfl rfl (Nat.le_of_ble_eq_true rfl) (by omega) (Nat.le_of_ble_eq_true rfl) (Nat.le_of_ble_eq_true rfl) (Or.inl (fun _ _ _ q => ZN q)) (fun r9 K2 n9 q9 => ?_)
    obtain ⟨rfl, q9n, q9h⟩ := q9
    have q9n := q9n.symm
    subst q9n
    have q9h := q9h.symm
    subst q9h
    refine w_ifb_eq 26 dX11_dot_12 (by decide) (fun y2 => ?_) (fun y2 => ?_)
    · exact absurd y2 (by decide)
    · skip
      refine v_iload_n dX11_dot_15 rfl ?_
      refine v_cS (av := [.int (iI (a2:Nat))]) (st := [.ref 47]) zyX11_isPlace lX11_165 (p_isPlaceT (d := 5) h2) dX11_dot_16 rfl rfl (Nat.le_of_ble_eq_true rfl) (by omega) (Nat.le_of_ble_eq_true rfl) (Nat.le_of_ble_eq_true rfl) (Or.inl (fun _ _ _ q => ZN q)) (fun r9 K3 n9 q9 => ?_)
      obtain ⟨rfl, q9n, q9h⟩ := q9
      have q9n := q9n.symm
      subst q9n
      have q9h := q9h.symm
      subst q9h
      refine w_ifb_eq 26 dX11_dot_19 (by decide) (fun y3 => ?_) (fun y3 => ?_)
      · exact absurd y3 (by decide)
      · skip
        refine v_iconst (iI 1) dX11_dot_22 rfl ?_
        refine v_goto 27 dX11_dot_23 (by decide) ?_
        refine w_ei (bz true) rfl ?_
        refine v_iload dX11_dot_27 rfl ?_
        refine w_if_lt 43 dX11_dot_29 (by decide) (by omega) (fun y4 => ?_) (fun y4 => ?_)
        · exact absurd y4 (by omega)
        · skip
          refine v_iload dX11_dot_32 rfl ?_
          refine v_bipush (iI 32) dX11_dot_34 rfl ?_
          refine w_icmp_gt 43 dX11_dot_36 (by decide) (by omega) (by decide) (fun y5 => ?_) (fun y5 => ?_)
          · exact absurd y5 (by omega)
          · skip
            refine v_iconst (iI 1) dX11_dot_39 rfl ?_
            refine v_goto 44 dX11_dot_40 (by decide) ?_
            refine w_ei (bz true) rfl ?_
            refine v_cV (av := [.int (iI (bz true)), .int (iI (bz true))]) (st := []) zyX11_goes lX11_172 h_47 rfl (p_goesT (d := 5) h_47) dX11_dot_44 rfl rfl (Nat.le_of_ble_eq_true rfl) (by omega) (Nat.le_of_ble_eq_true rfl) (Nat.le_of_ble_eq_true rfl) (Or.inl (fun _ _ _ q => ZN q)) (fun r9 G1 n9 q9 => ?_)
            obtain ⟨rfl, q9n, h_47, fr9⟩ := q9
            have q9n := q9n.symm
            subst q9n
            have h_48 := (fr9 48 (by decide)).trans h_48
            have h_49 := (fr9 49 (by decide)).trans h_49
            have h_58 := (fr9 58 (by decide)).trans h_58
            have h_66 := (fr9 66 (by decide)).trans h_66
            have h_67 := (fr9 67 (by decide)).trans h_67
            have h_68 := (fr9 68 (by decide)).trans h_68
            have h_73 := (fr9 73 (by decide)).trans h_73
            have nA := nA.fr fr9 (by decide) (by decide)
            have nB := nB.fr fr9 (by decide) (by decide)
            have nL := nL.fr fr9 (by decide) (by decide)
            have nR := nR.fr fr9 (by decide) (by decide)
            have nP := nP.fr fr9 (by decide) (by decide)
            have nS := nS.fr fr9 (by decide) (by decide)
            have nN := nN.fr fr9 (by decide) (by decide)
            have nD := nD.fr fr9 (by decide) (by decide)
            have nLo := nLo.fr fr9 (by decide) (by decide)
            have nUp := nUp.fr fr9 (by decide) (by decide)
            have hS := hS.fr fr9 (by decide) (by decide) (by decide)
            have hq := hq.fr fr9 (by decide)
            have fr := fr.tr fr9 (by decide)
            refine w_ifb_ne 51 dX11_dot_47 (by decide) (fun c1 => ?_) (fun c1 => ?_)
            · have fin : (zV X (fun r9 h' n' => r9 = none ∧ n' = n ∧ MD h' wd pt Q qn tf tc L 1 ∧ zFr MOL h h') cX11_dot 6 RX11 none d 0 0 74 [(0, .ref 47), (1, .int (iI (k:Nat))), (2, .int (iI (a1:Nat))), (3, .int (iI (a2:Nat))), (4, .int (iI (m:Nat)))] [] G1 n 0 0) := by
                refine v_aload_n dX11_dot_74 rfl ?_
                refine v_iconst (iI 1) dX11_dot_75 rfl ?_
                refine v_put (fs' := [.int (iI vs), .long (jL vm), .int (iI ve), .ref 48, .ref 49, .int (iI sg), .ref 50, .ref 52, .int (iI e), .int (iI rt), .ref 54, .ref 56, .ref 58, .ref 59, .ref 62, .ref 64, .int (iI 1), .ref 66, .int (iI (tc:Nat)), .ref 67, .int (iI (L.length:Nat)), .int (iI at9), .int (iI sz), .int (iI dg), .int (iI pw), .ref 68, .ref 69, .ref 71, .int (iI tn), .ref 73, .int (iI fm), .ref 74, .ref 76]) fX11_162 dX11_dot_76 h_47 (by decide) (Nat.le_of_ble_eq_true rfl) rfl rfl rfl (fun H1 eH1 => ?_)
                have h_47 : H1 47 = oModel vs vm ve sg e rt 1 (tc:Nat) (L.length:Nat) at9 sz dg pw tn fm := zf_same eH1
                have h_48 := (zf_ne eH1 (by decide)).trans h_48
                have h_49 := (zf_ne eH1 (by decide)).trans h_49
                have fr := fr.put eH1 (by simp)
                have fz : zFr [47] G1 H1 := zFr.put zFr.rf eH1 (by simp)
                have h_58 := (fz 58 (by decide)).trans h_58
                have h_66 := (fz 66 (by decide)).trans h_66
                have h_67 := (fz 67 (by decide)).trans h_67
                have h_68 := (fz 68 (by decide)).trans h_68
                have h_73 := (fz 73 (by decide)).trans h_73
                have nA := nA.fr fz (by decide) (by decide)
                have nB := nB.fr fz (by decide) (by decide)
                have nL := nL.fr fz (by decide) (by decide)
                have nR := nR.fr fz (by decide) (by decide)
                have nP := nP.fr fz (by decide) (by decide)
                have nS := nS.fr fz (by decide) (by decide)
                have nN := nN.fr fz (by decide) (by decide)
                have nD := nD.fr fz (by decide) (by decide)
                have nLo := nLo.fr fz (by decide) (by decide)
                have nUp := nUp.fr fz (by decide) (by decide)
                have hS := hS.fr fz (by decide) (by decide) (by decide)
                have hq := hq.fr fz (by decide)
                exact v_vret dX11_dot_79 trivial (Nat.le_of_ble_eq_true rfl) (Nat.le_of_ble_eq_true rfl) ⟨rfl, rfl, ⟨_, _, _, _, _, _, _, _, _, _, _, _, h_47, h_48, h_49, ⟨nA, nB, nL, nR, nP, nS, nN, nD, nLo, nUp⟩, h_58, ⟨_, _, hS⟩, hq, h_66, ⟨_, h_67, hbb, htx⟩, ⟨_, h_68⟩, ⟨_, h_73⟩⟩, fr⟩
              refine v_iload dX11_dot_51 rfl ?_
              refine w_if_le 80 dX11_dot_53 (by decide) (by omega) (fun z1 => ?_) (fun z1 => ?_)
              · exact absurd z1 (by omega)
              · skip
                refine v_iload_n dX11_dot_56 rfl ?_
                refine v_iload dX11_dot_57 rfl ?_
                refine w_iadd dX11_dot_59 ?_
                refine v_bipush (iI 32) dX11_dot_60 rfl ?_
                refine w_icmp_gt 74 dX11_dot_62 (by decide) (by omega) (by decide) (fun z2 => ?_) (fun z2 => ?_)
                · exact fin
                · skip
                  refine v_iload_n dX11_dot_65 rfl ?_
                  refine v_iload dX11_dot_66 rfl ?_
                  refine w_iadd dX11_dot_68 ?_
                  refine v_bipush (iI 32) dX11_dot_69 rfl ?_
                  refine w_icmp_le 80 dX11_dot_71 (by decide) (by omega) (by decide) (fun z3 => ?_) (fun z3 => ?_)
                  · exact absurd z3 (by omega)
                  · exact fin
            · exact absurd c1 (by decide)
theorem tc_bit {N V c t m : Nat} (e : N + V = c * 2 ^ (t + 1 + m)) : V / 2 ^ t % 2 = if N % 2 ^ t = 0 then N / 2 ^ t % 2 else 1 - N / 2 ^ t % 2 := by
  have hP := p_pos t
  have eM : c * 2 ^ (t + 1 + m) = 2 ^ t * (2 * (c * 2 ^ m)) := by
    rw [Nat.pow_add, Nat.pow_succ]; ac_rfl
  rw [eM] at e
  obtain ⟨P, eP⟩ : ∃ P, 2 ^ t = P := ⟨_, rfl⟩
  rw [eP] at e hP ⊢
  obtain ⟨W, eW⟩ : ∃ W, c * 2 ^ m = W := ⟨_, rfl⟩
  rw [eW] at e
  have d1 := Nat.div_add_mod N P
  have d2 := Nat.div_add_mod V P
  have m1 := Nat.mod_lt N hP
  have m2 := Nat.mod_lt V hP
  obtain ⟨n1, en⟩ : ∃ x, N / P = x := ⟨_, rfl⟩
  obtain ⟨v1, ev⟩ : ∃ x, V / P = x := ⟨_, rfl⟩
  obtain ⟨w, ew⟩ : ∃ x, V % P = x := ⟨_, rfl⟩
  obtain ⟨q, eq⟩ : ∃ x, N % P = x := ⟨_, rfl⟩
  rw [en, eq] at d1
  rw [ev, ew] at d2
  rw [eq] at m1
  rw [ew] at m2
  rw [en, ev, eq]
  have k1 : P * (2 * W) = P * n1 + P * v1 + (q + w) := by omega
  have k2 : P * (n1 + v1) ≤ P * (2 * W) := by rw [Nat.mul_add]; omega
  have k3 : P * (2 * W) < P * (n1 + v1 + 2) := by rw [Nat.mul_add, Nat.mul_add]; omega
  have k4 := Nat.le_of_mul_le_mul_left k2 hP
  have k5 := Nat.lt_of_mul_lt_mul_left k3
  have k6 : 2 * W = n1 + v1 ∨ 2 * W = n1 + v1 + 1 := by omega
  rcases k6 with k6 | k6
  · rw [k6, Nat.mul_add] at k1
    rw [if_pos (by omega)]; omega
  · rw [k6, Nat.mul_add, Nat.mul_add] at k1
    rw [if_neg (by omega)]; omega
/-- the words of an image -/
def q512 (Q : Int) : Nat := (Q % ((2 ^ 512 : Nat) : Int)).toNat
theorem q512_bit {Q : Int} {t : Nat} (ht : t < 512) : q512 Q / 2 ^ t % 2 = if Q < 0 ∧ Q.natAbs % 2 ^ t ≠ 0 then 1 - Q.natAbs / 2 ^ t % 2 else Q.natAbs / 2 ^ t % 2 := by
  obtain ⟨P, eP⟩ : ∃ P : Nat, 2 ^ 512 = P := ⟨_, rfl⟩
  have hP : 0 < P := by rw [← eP]; exact p_pos 512
  unfold q512
  rw [eP]
  have d1 := Int.mul_ediv_add_emod Q (P : Int)
  have d2 := Int.emod_nonneg Q (show (P : Int) ≠ 0 by omega)
  obtain ⟨V, eV⟩ : ∃ V : Nat, (Q % (P : Int)).toNat = V := ⟨_, rfl⟩
  have eV2 : Q % (P : Int) = V := by omega
  rw [eV]
  rw [eV2] at d1
  obtain ⟨N, eN⟩ : ∃ N : Nat, Q.natAbs = N := ⟨_, rfl⟩
  rw [eN]
  obtain ⟨m, em⟩ : ∃ m, 512 = t + 1 + m := ⟨511 - t, by omega⟩
  by_cases c : Q < 0
  · have e3 : (N : Int) + V = (-(Q / (P : Int))) * P := by rw [Int.neg_mul, Int.mul_comm]; omega
    have e4 : 0 ≤ -(Q / (P : Int)) := by
      have := Int.ediv_neg_of_neg_of_pos c (show (0 : Int) < P by omega)
      omega
    obtain ⟨c9, ec⟩ : ∃ c9 : Nat, -(Q / (P : Int)) = c9 := ⟨(-(Q / (P : Int))).toNat, by omega⟩
    rw [ec, ← Int.natCast_mul, ← Int.natCast_add] at e3
    have e5 := Int.ofNat.inj e3
    rw [← eP, em] at e5
    rw [tc_bit e5]
    by_cases z : N % 2 ^ t = 0
    · rw [if_pos z, if_neg (fun y => y.2 z)]
    · rw [if_neg z, if_pos ⟨c, z⟩]
  · rw [if_neg (fun y => c y.1)]
    have e4 : 0 ≤ Q / (P : Int) := Int.ediv_nonneg (by omega) (by omega)
    obtain ⟨c9, ec⟩ : ∃ c9 : Nat, Q / (P : Int) = c9 := ⟨(Q / (P : Int)).toNat, by omega⟩
    rw [ec, ← Int.natCast_mul, ← Int.natCast_add] at d1
    have e5 : N = P * c9 + V := by omega
    rw [e5, ← eP, em, show 2 ^ (t + 1 + m) * c9 + V = 2 ^ t * (2 * (2 ^ m * c9)) + V from by rw [Nat.pow_add, Nat.pow_succ, Nat.mul_assoc, Nat.mul_assoc], Nat.mul_add_div (p_pos t)]
    omega
theorem sg_lt (Q : Int) : sgI Q < 0 ↔ Q < 0 := by have := sgI_c Q; omega
set_option maxHeartbeats 8000000 in
set_option maxRecDepth 100000 in
theorem p_Mimage {d n tc k i : Nat} {wd pt tf : Nat → Nat} {Q : Nat → Int} {qn : Nat → Bool} {L : List Nat} {th : Int} {h : zH} (hM : MD h wd pt Q qn tf tc L th) (hk : k < 4) (hi : i < 16) (hd : 3 ≤ d) :
    zM yX11_image cX11_image 9 (some .int) d 0 0 [.ref 47, .int (iI (k:Nat)), .int (iI (i:Nat))] h n (fun r9 h' n' => r9 = some (.int (iI (cond (qn k) (if i = 15 then -2147483648 else 0) (wat (q512 (Q k)) i : Nat)))) ∧ n' = n ∧ MD h' wd pt Q qn tf tc L 0 ∧ zFr MOL h h') := by
  obtain ⟨vs, vm, ve, sg, e, rt, at9, sz, dg, pw, tn, fm, h_47, h_48, h_49, ⟨nA, nB, nL, nR, nP, nS, nN, nD, nLo, nUp⟩, h_58, ⟨Q0, n0, hS⟩, hq, h_66, ⟨tx, h_67, hbb, htx⟩, ⟨fg, h_68⟩, ⟨fw, h_73⟩⟩ := id hM
  obtain ⟨s, es⟩ : ∃ s, 78 + 3 * k = s := ⟨_, rfl⟩
  refine zM_of zyX11_image rfl (Nat.le_of_ble_eq_true rfl) (fun X hX => ?_)
  have fr : zFr MOL h h := zFr.rf
  refine v_aload_n dX11_image_0 rfl ?_
  refine v_iload_n dX11_image_1 rfl ?_
  refine v_cS (av := [.int (iI (k:Nat))]) (st := [.ref 47]) zyX11_isQuire lX11_243 (p_isQuireT (d := 2) hk) dX11_image_2 rfl rfl (Nat.le_of_ble_eq_true rfl) (by omega) (Nat.le_of_ble_eq_true rfl) (Nat.le_of_ble_eq_true rfl) (Or.inl (fun _ _ _ q => ZN q)) (fun r9 K1 n9 q9 => ?_)
  obtain ⟨rfl, q9n, q9h⟩ := q9
  have q9n := q9n.symm
  subst q9n
  have q9h := q9h.symm
  subst q9h
  refine v_iload_n dX11_image_5 rfl ?_
  refine w_if_lt 19 dX11_image_6 (by decide) (by omega) (fun y1 => ?_) (fun y1 => ?_)
  · exact absurd y1 (by omega)
  · skip
    refine v_iload_n dX11_image_9 rfl ?_
    refine v_bipush (iI 16) dX11_image_10 rfl ?_
    refine w_icmp_ge 19 dX11_image_12 (by decide) (by omega) (by decide) (fun y2 => ?_) (fun y2 => ?_)
    · exact absurd y2 (by omega)
    · skip
      refine v_iconst (iI 1) dX11_image_15 rfl ?_
      refine v_goto 20 dX11_image_16 (by decide) ?_
      refine w_ei (bz true) rfl ?_
      refine v_cV (av := [.int (iI (bz true)), .int (iI (bz true))]) (st := []) zyX11_goes lX11_172 h_47 rfl (p_goesT (d := 2) h_47) dX11_image_20 rfl rfl (Nat.le_of_ble_eq_true rfl) (by omega) (Nat.le_of_ble_eq_true rfl) (Nat.le_of_ble_eq_true rfl) (Or.inl (fun _ _ _ q => ZN q)) (fun r9 G1 n9 q9 => ?_)
      obtain ⟨rfl, q9n, h_47, fr9⟩ := q9
      have q9n := q9n.symm
      subst q9n
      have h_48 := (fr9 48 (by decide)).trans h_48
      have h_49 := (fr9 49 (by decide)).trans h_49
      have h_58 := (fr9 58 (by decide)).trans h_58
      have h_66 := (fr9 66 (by decide)).trans h_66
      have h_67 := (fr9 67 (by decide)).trans h_67
      have h_68 := (fr9 68 (by decide)).trans h_68
      have h_73 := (fr9 73 (by decide)).trans h_73
      have nA := nA.fr fr9 (by decide) (by decide)
      have nB := nB.fr fr9 (by decide) (by decide)
      have nL := nL.fr fr9 (by decide) (by decide)
      have nR := nR.fr fr9 (by decide) (by decide)
      have nP := nP.fr fr9 (by decide) (by decide)
      have nS := nS.fr fr9 (by decide) (by decide)
      have nN := nN.fr fr9 (by decide) (by decide)
      have nD := nD.fr fr9 (by decide) (by decide)
      have nLo := nLo.fr fr9 (by decide) (by decide)
      have nUp := nUp.fr fr9 (by decide) (by decide)
      have hS := hS.fr fr9 (by decide) (by decide) (by decide)
      have hq := hq.fr fr9 (by decide)
      have fr := fr.tr fr9 (by decide)
      have hqk := hq k hk
      rw [es, show 79 + 3 * k = s + 1 from by omega, show 80 + 3 * k = s + 2 from by omega] at hqk
      obtain ⟨b0, eb0⟩ : ∃ b0, s + 1 = b0 := ⟨_, rfl⟩
      rw [eb0] at hqk
      obtain ⟨h_s, hZ⟩ := id hqk
      obtain ⟨_, _, h_b0, -⟩ := id hZ
      refine w_ifb_ne 28 dX11_image_23 (by decide) (fun c1 => ?_) (fun c1 => ?_)
      · skip
        refine v_aload_n dX11_image_28 rfl ?_
        refine v_get fX11_129 dX11_image_29 h_47 (by decide) rfl ?_
        refine v_iload_n dX11_image_32 rfl ?_
        refine w_aald dX11_image_33 h_58 hk es ?_
        refine v_astore_n (i := 3) (lv' := [(3, .ref s), (0, .ref 47), (1, .int (iI (k:Nat))), (2, .int (iI (i:Nat)))]) dX11_image_34 rfl (by decide) rfl ?_
        refine v_aload_n dX11_image_35 rfl ?_
        refine v_getN fX11_246 dX11_image_36 h_s (by decide) rfl ?_
        refine w_ifb_eq 55 dX11_image_39 (by decide) (fun c2 => ?_) (fun c2 => ?_)
        · obtain ⟨V, eV⟩ : ∃ V, q512 (Q k) = V := ⟨_, rfl⟩
          have loop : ∀ (m t : Nat) (tt : Bool) (v : Nat), t + m = 32 * i + 32 → tt = (decide (Q k < 0) && decide ((Q k).natAbs % 2 ^ t ≠ 0)) → v = V / 2 ^ (32 * i) % 2 ^ (t - 32 * i) → (zV X (fun r9 h' n' => r9 = some (.int (iI (cond (qn k) (if i = 15 then -2147483648 else 0) (wat (q512 (Q k)) i : Nat)))) ∧ n' = n ∧ MD h' wd pt Q qn tf tc L 0 ∧ zFr MOL h h') cX11_image 9 RX11 (some .int) d 0 0 64 [(0, .ref 47), (1, .int (iI (k:Nat))), (2, .int (iI (i:Nat))), (3, .ref s), (4, .int (iI (bz tt))), (5, .int (iI (v:Nat))), (6, .int (iI (t:Nat)))] [] G1 n 0 0) := by
            intro m
            induction m with
            | zero =>
              intro t tt v hm ht hv
              refine v_iload dX11_image_64 rfl ?_
              refine v_bipush (iI 32) dX11_image_66 rfl ?_
              refine v_iload_n dX11_image_68 rfl ?_
              refine w_imul dX11_image_69 ?_
              refine v_bipush (iI 32) dX11_image_70 rfl ?_
              refine w_iadd dX11_image_72 ?_
              refine w_icmp_ge 158 dX11_image_73 (by decide) (by omega) (by omega) (fun b1 => ?_) (fun b1 => ?_)
              · have e9 : v = wat V i := by rw [hv, show t - 32 * i = 32 from by omega]; rfl
                refine v_iload dX11_image_158 rfl ?_
                exact v_iret dX11_image_160 trivial (Nat.le_of_ble_eq_true rfl) (Nat.le_of_ble_eq_true rfl) ⟨by rw [c2, cond_false, eV, ← e9], rfl, ⟨_, _, _, _, _, _, _, _, _, _, _, _, h_47, h_48, h_49, ⟨nA, nB, nL, nR, nP, nS, nN, nD, nLo, nUp⟩, h_58, ⟨_, _, hS⟩, hq, h_66, ⟨_, h_67, hbb, htx⟩, ⟨_, h_68⟩, ⟨_, h_73⟩⟩, fr⟩
              · exact absurd b1 (by omega)
            | succ m ih =>
              intro t tt v hm ht hv
              refine v_iload dX11_image_64 rfl ?_
              refine v_bipush (iI 32) dX11_image_66 rfl ?_
              refine v_iload_n dX11_image_68 rfl ?_
              refine w_imul dX11_image_69 ?_
              refine v_bipush (iI 32) dX11_image_70 rfl ?_
              refine w_iadd dX11_image_72 ?_
              refine w_icmp_ge 158 dX11_image_73 (by decide) (by omega) (by omega) (fun b1 => ?_) (fun b1 => ?_)
              · exact absurd b1 (by omega)
              · obtain ⟨bt, eb⟩ : ∃ bt, (Q k).natAbs / 2 ^ t % 2 = bt := ⟨_, rfl⟩
                have hb2 : bt < 2 := by omega
                have hq9 := q512_bit (Q := Q k) (t := t) (by omega)
                rw [eV, eb] at hq9
                have hmod : (Q k).natAbs % 2 ^ (t + 1) = (Q k).natAbs % 2 ^ t + 2 ^ t * bt := by rw [Nat.pow_succ, Nat.mod_mul, eb]
                have hpt := p_pos t
                refine v_aload_n dX11_image_76 rfl ?_
                refine v_getN fX11_97 dX11_image_77 h_s (by decide) rfl ?_
                refine v_iload dX11_image_80 rfl ?_
                refine v_cV (av := [.int (iI (t:Nat))]) (st := []) zyX9_bit lX11_199 h_b0 rfl (p_nbit (d := 2) hZ (show t < 100000 by omega)) dX11_image_82 rfl rfl (Nat.le_of_ble_eq_true rfl) (by omega) (Nat.le_of_ble_eq_true rfl) (Nat.le_of_ble_eq_true rfl) (Or.inl (fun _ _ _ q => ZN q)) (fun r9 K1 n9 q9 => ?_)
                obtain ⟨rfl, q9n, q9h⟩ := q9
                have q9n := q9n.symm
                subst q9n
                have q9h := q9h.symm
                subst q9h
                rw [eb]
                refine w_ei (bt:Nat) rfl ?_
                have told : ∀ tb : Nat, tb = V / 2 ^ t % 2 → (zV X (fun r9 h' n' => r9 = some (.int (iI (cond (qn k) (if i = 15 then -2147483648 else 0) (wat (q512 (Q k)) i : Nat)))) ∧ n' = n ∧ MD h' wd pt Q qn tf tc L 0 ∧ zFr MOL h h') cX11_image 9 RX11 (some .int) d 0 0 101 [(0, .ref 47), (1, .int (iI (k:Nat))), (2, .int (iI (i:Nat))), (3, .ref s), (4, .int (iI (bz tt))), (5, .int (iI (v:Nat))), (6, .int (iI (t:Nat))), (7, .int (iI (bt:Nat)))] [.int (iI (tb:Nat))] G1 n 0 0) := by
                  intro tb etb
                  have fin : ∀ t2 : Bool, t2 = (decide (Q k < 0) && decide ((Q k).natAbs % 2 ^ (t + 1) ≠ 0)) → (zV X (fun r9 h' n' => r9 = some (.int (iI (cond (qn k) (if i = 15 then -2147483648 else 0) (wat (q512 (Q k)) i : Nat)))) ∧ n' = n ∧ MD h' wd pt Q qn tf tc L 0 ∧ zFr MOL h h') cX11_image 9 RX11 (some .int) d 0 0 126 [(0, .ref 47), (1, .int (iI (k:Nat))), (2, .int (iI (i:Nat))), (3, .ref s), (4, .int (iI (bz tt))), (5, .int (iI (v:Nat))), (6, .int (iI (t:Nat))), (7, .int (iI (bt:Nat))), (8, .int (iI (tb:Nat)))] [.int (iI (bz t2))] G1 n 0 0) := by
                    intro t2 et2
                    refine v_istore (i := 4) (lv' := [(4, .int (iI (bz t2))), (0, .ref 47), (1, .int (iI (k:Nat))), (2, .int (iI (i:Nat))), (3, .ref s), (5, .int (iI (v:Nat))), (6, .int (iI (t:Nat))), (7, .int (iI (bt:Nat))), (8, .int (iI (tb:Nat)))]) dX11_image_126 (by decide) rfl ?_
                    refine v_iload dX11_image_128 rfl ?_
                    refine v_bipush (iI 32) dX11_image_130 rfl ?_
                    refine v_iload_n dX11_image_132 rfl ?_
                    refine w_imul dX11_image_133 ?_
                    refine w_icmp_lt 152 dX11_image_134 (by decide) (by omega) (by omega) (fun b3 => ?_) (fun b3 => ?_)
                    · skip
                      refine w_iinc (lv' := [(6, .int (iI ((t:Nat) + 1))), (4, .int (iI (bz t2))), (0, .ref 47), (1, .int (iI (k:Nat))), (2, .int (iI (i:Nat))), (3, .ref s), (5, .int (iI (v:Nat))), (7, .int (iI (bt:Nat))), (8, .int (iI (tb:Nat)))]) dX11_image_152 rfl (by decide) rfl ?_
                      refine w_sub (lv2 := [(0, .ref 47), (1, .int (iI (k:Nat))), (2, .int (iI (i:Nat))), (3, .ref s), (4, .int (iI (bz t2))), (5, .int (iI (v:Nat))), (6, .int (iI ((t:Nat) + 1)))]) [2, 3, 4, 5, 1, 6, 0] rfl ?_
                      refine v_goto 64 dX11_image_155 (by decide) ?_
                      have e1 : (t : Int) + 1 = ((t + 1 : Nat) : Int) := by omega
                      rw [e1]
                      exact ih (t + 1) t2 v (by omega) et2 (by rw [hv, show t - 32 * i = 0 from by omega, show t + 1 - 32 * i = 0 from by omega])
                    · have hv2 : v < 2 ^ (t - 32 * i) := by rw [hv]; exact Nat.mod_lt _ (p_pos _)
                      have e7 : v + tb * 2 ^ (t - 32 * i) = V / 2 ^ (32 * i) % 2 ^ (t + 1 - 32 * i) := by
                        rw [show t + 1 - 32 * i = t - 32 * i + 1 from by omega, Nat.pow_succ, Nat.mod_mul, ← hv, Nat.div_div_eq_div_mul, ← Nat.pow_add, show 32 * i + (t - 32 * i) = t from by omega, etb, Nat.mul_comm (2 ^ (t - 32 * i))]
                      refine v_iload dX11_image_137 rfl ?_
                      refine v_iload dX11_image_139 rfl ?_
                      refine v_iload dX11_image_141 rfl ?_
                      refine v_bipush (iI 32) dX11_image_143 rfl ?_
                      refine v_iload_n dX11_image_145 rfl ?_
                      refine w_imul dX11_image_146 ?_
                      refine w_isub dX11_image_147 ?_
                      refine w_ishl dX11_image_148 (t - 32 * i) (2 ^ (t - 32 * i)) rfl (by omega) (by omega) ?_
                      have o1 : ((tb : Int) * 2 ^ (t - 32 * i)) % 2 ^ (t - 32 * i) = 0 := Int.mul_emod_left _ _
                      have o2 : 0 ≤ (v : Int) ∧ (v : Int) < 2 ^ (t - 32 * i) := by rw [ipw]; omega
                      refine w_ior2 dX11_image_149 (t - 32 * i) (2 ^ (t - 32 * i)) rfl (by omega) o1 o2 ?_
                      refine w_ei (v + tb * 2 ^ (t - 32 * i):Nat) (by rw [ipw]; push_cast; rw [Int.add_comm]) ?_
                      refine v_istore (i := 5) (lv' := [(5, .int (iI (v + tb * 2 ^ (t - 32 * i):Nat))), (4, .int (iI (bz t2))), (0, .ref 47), (1, .int (iI (k:Nat))), (2, .int (iI (i:Nat))), (3, .ref s), (6, .int (iI (t:Nat))), (7, .int (iI (bt:Nat))), (8, .int (iI (tb:Nat)))]) dX11_image_150 (by decide) rfl ?_
                      refine w_iinc (lv' := [(6, .int (iI ((t:Nat) + 1))), (5, .int (iI (v + tb * 2 ^ (t - 32 * i):Nat))), (4, .int (iI (bz t2))), (0, .ref 47), (1, .int (iI (k:Nat))), (2, .int (iI (i:Nat))), (3, .ref s), (7, .int (iI (bt:Nat))), (8, .int (iI (tb:Nat)))]) dX11_image_152 rfl (by decide) rfl ?_
                      refine w_sub (lv2 := [(0, .ref 47), (1, .int (iI (k:Nat))), (2, .int (iI (i:Nat))), (3, .ref s), (4, .int (iI (bz t2))), (5, .int (iI (v + tb * 2 ^ (t - 32 * i):Nat))), (6, .int (iI ((t:Nat) + 1)))]) [3, 4, 5, 6, 2, 1, 0] rfl ?_
                      refine v_goto 64 dX11_image_155 (by decide) ?_
                      have e1 : (t : Int) + 1 = ((t + 1 : Nat) : Int) := by omega
                      rw [e1]
                      exact ih (t + 1) t2 _ (by omega) et2 e7
                  refine v_istore (i := 8) (lv' := [(8, .int (iI (tb:Nat))), (0, .ref 47), (1, .int (iI (k:Nat))), (2, .int (iI (i:Nat))), (3, .ref s), (4, .int (iI (bz tt))), (5, .int (iI (v:Nat))), (6, .int (iI (t:Nat))), (7, .int (iI (bt:Nat)))]) dX11_image_101 (by decide) rfl ?_
                  refine w_sub (lv2 := [(0, .ref 47), (1, .int (iI (k:Nat))), (2, .int (iI (i:Nat))), (3, .ref s), (4, .int (iI (bz tt))), (5, .int (iI (v:Nat))), (6, .int (iI (t:Nat))), (7, .int (iI (bt:Nat))), (8, .int (iI (tb:Nat)))]) [1, 2, 3, 4, 5, 6, 7, 8, 0] rfl ?_
                  refine v_iload dX11_image_103 rfl ?_
                  have hsl := sg_lt (Q k)
                  have hsr := sgI_r (Q k)
                  refine w_ifb_ne 121 dX11_image_105 (by decide) (fun d1 => ?_) (fun d1 => ?_)
                  · rw [d1] at ht
                    have ht := ht.symm
                    rw [Bool.and_eq_true] at ht
                    have h5 := of_decide_eq_true ht.1
                    have h6 : (Q k).natAbs % 2 ^ t ≠ 0 := of_decide_eq_true ht.2
                    refine v_iconst (iI 1) dX11_image_121 rfl ?_
                    refine v_goto 126 dX11_image_122 (by decide) ?_
                    refine w_ei (bz true) rfl ?_
                    exact fin true (by rw [decide_eq_true h5, decide_eq_true (show (Q k).natAbs % 2 ^ (t + 1) ≠ 0 from by rw [hmod]; omega)]; rfl)
                  · rw [d1] at ht
                    refine v_aload_n dX11_image_108 rfl ?_
                    refine v_getN fX11_94 dX11_image_109 h_s (by decide) rfl ?_
                    refine w_if_ge 125 dX11_image_112 (by decide) (by omega) (fun d2 => ?_) (fun d2 => ?_)
                    · have h5 : ¬ (Q k < 0) := by omega
                      refine v_iconst (iI 0) dX11_image_125 rfl ?_
                      refine w_ei (bz false) rfl ?_
                      exact fin false (by rw [decide_eq_false h5]; rfl)
                    · have h5 : Q k < 0 := by omega
                      rw [decide_eq_true h5, Bool.true_and] at ht
                      have h6 : (Q k).natAbs % 2 ^ t = 0 := Classical.byContradiction (of_decide_eq_false ht.symm)
                      refine v_iload dX11_image_115 rfl ?_
                      refine v_iconst (iI 1) dX11_image_117 rfl ?_
                      refine w_icmp_ne 125 dX11_image_118 (by decide) (by omega) (by decide) (fun d3 => ?_) (fun d3 => ?_)
                      · have h7 : bt = 0 := by omega
                        refine v_iconst (iI 0) dX11_image_125 rfl ?_
                        refine w_ei (bz false) rfl ?_
                        exact fin false (by rw [hmod, h6, h7, Nat.mul_zero, decide_eq_false (show ¬ (0 + 0 ≠ 0) by decide), Bool.and_false])
                      · have h7 : bt = 1 := by omega
                        refine v_iconst (iI 1) dX11_image_121 rfl ?_
                        refine v_goto 126 dX11_image_122 (by decide) ?_
                        refine w_ei (bz true) rfl ?_
                        exact fin true (by rw [hmod, h6, h7, Nat.mul_one, decide_eq_true h5, decide_eq_true (show 0 + 2 ^ t ≠ 0 by omega)]; rfl)
                refine v_istore (i := 7) (lv' := [(7, .int (iI (bt:Nat))), (0, .ref 47), (1, .int (iI (k:Nat))), (2, .int (iI (i:Nat))), (3, .ref s), (4, .int (iI (bz tt))), (5, .int (iI (v:Nat))), (6, .int (iI (t:Nat)))]) dX11_image_85 (by decide) rfl ?_
                refine w_sub (lv2 := [(0, .ref 47), (1, .int (iI (k:Nat))), (2, .int (iI (i:Nat))), (3, .ref s), (4, .int (iI (bz tt))), (5, .int (iI (v:Nat))), (6, .int (iI (t:Nat))), (7, .int (iI (bt:Nat)))]) [1, 2, 3, 4, 5, 6, 7, 0] rfl ?_
                refine v_iload dX11_image_87 rfl ?_
                refine w_ifb_eq 99 dX11_image_89 (by decide) (fun b2 => ?_) (fun b2 => ?_)
                · rw [b2] at ht
                  refine v_iload dX11_image_99 rfl ?_
                  exact told bt (by
                    rw [hq9, if_neg (fun z => ?_)]
                    rw [decide_eq_true z.1, decide_eq_true z.2] at ht
                    exact absurd ht (by decide))
                · rw [b2] at ht
                  have ht := ht.symm
                  rw [Bool.and_eq_true] at ht
                  refine v_iconst (iI 1) dX11_image_92 rfl ?_
                  refine v_iload dX11_image_93 rfl ?_
                  refine w_isub dX11_image_95 ?_
                  refine w_ei (1 - bt:Nat) (by omega) ?_
                  refine v_goto 101 dX11_image_96 (by decide) ?_
                  exact told (1 - bt) (by rw [hq9, if_pos ⟨of_decide_eq_true ht.1, of_decide_eq_true ht.2⟩])
          refine v_iconst (iI 0) dX11_image_55 rfl ?_
          refine w_ei (bz false) rfl ?_
          refine v_istore (i := 4) (lv' := [(4, .int (iI (bz false))), (3, .ref s), (0, .ref 47), (1, .int (iI (k:Nat))), (2, .int (iI (i:Nat)))]) dX11_image_56 (by decide) rfl ?_
          refine v_iconst (iI 0) dX11_image_58 rfl ?_
          refine v_istore (i := 5) (lv' := [(5, .int (iI 0)), (4, .int (iI (bz false))), (3, .ref s), (0, .ref 47), (1, .int (iI (k:Nat))), (2, .int (iI (i:Nat)))]) dX11_image_59 (by decide) rfl ?_
          refine v_iconst (iI 0) dX11_image_61 rfl ?_
          refine v_istore (i := 6) (lv' := [(6, .int (iI 0)), (5, .int (iI 0)), (4, .int (iI (bz false))), (3, .ref s), (0, .ref 47), (1, .int (iI (k:Nat))), (2, .int (iI (i:Nat)))]) dX11_image_62 (by decide) rfl ?_
          refine w_sub (lv2 := [(0, .ref 47), (1, .int (iI (k:Nat))), (2, .int (iI (i:Nat))), (3, .ref s), (4, .int (iI (bz false))), (5, .int (iI 0)), (6, .int (iI 0))]) [4, 5, 6, 3, 2, 1, 0] rfl ?_
          exact loop (32 * i + 32) 0 false 0 (by omega) (by rw [Nat.pow_zero, Nat.mod_one]; simp) (by rw [show 0 - 32 * i = 0 from by omega, Nat.pow_zero, Nat.mod_one])
        · skip
          refine v_iload_n dX11_image_42 rfl ?_
          refine v_bipush (iI 15) dX11_image_43 rfl ?_
          refine w_icmp_ne 53 dX11_image_45 (by decide) (by omega) (by decide) (fun c3 => ?_) (fun c3 => ?_)
          · skip
            refine v_iconst (iI 0) dX11_image_53 rfl ?_
            exact v_iret dX11_image_54 trivial (Nat.le_of_ble_eq_true rfl) (Nat.le_of_ble_eq_true rfl) ⟨by rw [c2, cond_true, if_neg (by omega)], rfl, ⟨_, _, _, _, _, _, _, _, _, _, _, _, h_47, h_48, h_49, ⟨nA, nB, nL, nR, nP, nS, nN, nD, nLo, nUp⟩, h_58, ⟨_, _, hS⟩, hq, h_66, ⟨_, h_67, hbb, htx⟩, ⟨_, h_68⟩, ⟨_, h_73⟩⟩, fr⟩
          · skip
            refine v_ldc (v := iI (-2147483648)) (by rw [show iI (-2147483648) = (-2147483648 : Int32) from by decide]; exact kX11_253) dX11_image_48 ?_
            refine v_goto 54 dX11_image_50 (by decide) ?_
            exact v_iret dX11_image_54 trivial (Nat.le_of_ble_eq_true rfl) (Nat.le_of_ble_eq_true rfl) ⟨by rw [c2, cond_true, if_pos (by omega)], rfl, ⟨_, _, _, _, _, _, _, _, _, _, _, _, h_47, h_48, h_49, ⟨nA, nB, nL, nR, nP, nS, nN, nD, nLo, nUp⟩, h_58, ⟨_, _, hS⟩, hq, h_66, ⟨_, h_67, hbb, htx⟩, ⟨_, h_68⟩, ⟨_, h_73⟩⟩, fr⟩
      · exact absurd c1 (by decide)
