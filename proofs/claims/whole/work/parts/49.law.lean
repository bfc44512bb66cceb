/-! The law: its cases. -/
section
variable {X : zX} {Post : zP} {cc : ByteArray} {nL : Nat} {own : String} {ret : Option FieldType} {d MC MS pc : Nat} {lv : List (Nat × Value)} {st : List Value} {h : zH} {n cells slots : Nat}
theorem w_lcmp_same {a off : Int} (tgt : Nat) (hd : decode cc pc = .ok (.lcmp, 1)) (hd2 : decode cc (pc + 1) = .ok (.ifCond .eq off, 3)) (ht : ((pc + 1 : Nat) : Int) + off = (tgt : Int)) (k : zV X Post cc nL own ret d MC MS tgt lv st h n cells slots) : zV X Post cc nL own ret d MC MS pc lv (.long (jL a) :: .long (jL a) :: st) h n cells slots :=
  v_lcmp hd (v_if_eq tgt hd2 ht (fun _ => k) (fun q => absurd ((lg_cmp_eq _ _).mpr rfl) q))
theorem w_icmp_same {a off : Int} (tgt : Nat) (hd : decode cc pc = .ok (.if_icmp .eq off, 3)) (ht : (pc : Int) + off = (tgt : Int)) (k : zV X Post cc nL own ret d MC MS tgt lv st h n cells slots) : zV X Post cc nL own ret d MC MS pc lv (.int (iI a) :: .int (iI a) :: st) h n cells slots :=
  v_icmp_eq tgt hd ht (fun _ => k) (fun q => absurd rfl q)
end
theorem n_W {p : Int} (h : isW p = true) : ∃ a : Nat, p = a ∧ 3 ≤ a ∧ a ≤ 32 := ⟨p.toNat, by have := isW_t h; omega, by have := isW_t h; omega, by have := isW_t h; omega⟩
theorem n_n {p : Int} (h : 0 ≤ p) : ∃ a : Nat, p = a := ⟨p.toNat, by omega⟩
theorem p_patternV {d n tc a1 : Nat} {wd pt tf : Nat → Nat} {Q : Nat → Int} {qn : Nat → Bool} {L : List Nat} {th : Int} {h : zH} (hM : MD h wd pt Q qn tf tc L th) (h1 : a1 < 32) (hd : 1 ≤ d) : zM yX11_pattern cX11_pattern 2 (some .long) d 0 0 [.ref 47, .int (iI (a1:Nat))] h n (fun r h' n' => r = some (.long (jL (pt a1 : Nat))) ∧ n' = n ∧ MD h' wd pt Q qn tf tc L 0 ∧ zFr MOL h h') := by
  have K := p_Mpattern (d := d) (n := n) (p := a1) hM (by omega) hd
  rw [isP_n h1, Int.toNat_natCast] at K
  exact K
theorem p_widthV {d n tc a1 : Nat} {wd pt tf : Nat → Nat} {Q : Nat → Int} {qn : Nat → Bool} {L : List Nat} {th : Int} {h : zH} (hM : MD h wd pt Q qn tf tc L th) (h1 : a1 < 32) (hd : 1 ≤ d) : zM yX11_width cX11_width 2 (some .int) d 0 0 [.ref 47, .int (iI (a1:Nat))] h n (fun r h' n' => r = some (.int (iI (wd a1 : Nat))) ∧ n' = n ∧ MD h' wd pt Q qn tf tc L 0 ∧ zFr MOL h h') := by
  have K := p_Mwidth (d := d) (n := n) (p := a1) hM (by omega) hd
  rw [isP_n h1, Int.toNat_natCast] at K
  exact K
theorem p_wholeV {d n tc a1 : Nat} {wd pt tf : Nat → Nat} {Q : Nat → Int} {qn : Nat → Bool} {L : List Nat} {th : Int} {h : zH} (hM : MD h wd pt Q qn tf tc L th) (hPL : PL wd pt) (h1 : a1 < 32) (hx : mwB (pt a1) (wd a1) = false) (hd : 7 ≤ d) : zM yX11_whole cX11_whole 6 (some .long) d 0 0 [.ref 47, .int (iI (a1:Nat))] h n (fun r h' n' => r = some (.long (jL (sgI (pvI (pt a1) (wd a1)) * (mwv 3 (pvI (pt a1) (wd a1)) : Nat)))) ∧ n' = n ∧ MD h' wd pt Q qn tf tc L 0 ∧ zFr MOL h h') := by
  have K := p_Mwhole (d := d) (n := n) hM hPL h1 hd
  rw [hx] at K
  exact K
theorem p_wholeW {d n tc a1 : Nat} {wd pt tf : Nat → Nat} {Q : Nat → Int} {qn : Nat → Bool} {L : List Nat} {th : Int} {h : zH} (hM : MD h wd pt Q qn tf tc L th) (hPL : PL wd pt) (h1 : a1 < 32) (hx : mwB (pt a1) (wd a1) = true) (hd : 7 ≤ d) : zM yX11_whole cX11_whole 6 (some .long) d 0 0 [.ref 47, .int (iI (a1:Nat))] h n (fun r h' n' => r = some (.long (jL 0)) ∧ n' = n ∧ MD h' wd pt Q qn tf tc L 2 ∧ zFr MOL h h') := by
  have K := p_Mwhole (d := d) (n := n) hM hPL h1 hd
  rw [hx] at K
  exact K
set_option maxHeartbeats 8000000 in
set_option maxRecDepth 100000 in
theorem c_add {X : zX} {i cells slots N L9 : Nat} {sc : Nat → Int} {h : zH} (hE : zLE X) (hSc : zSc X L9 sc) (hi : i + 6 ≤ L9) (hc : cells + 2 ≤ 601024) (hs : slots + 9 ≤ 7293034) (hN : N ≤ 20000) (hI : LI h N)
    (kont : ∀ (h' : zH) (c' s' : Nat), LI h' (N + 32) → c' ≤ cells + 2 → s' ≤ slots + 9 → zV X PLW cL_law 8 RL (some .boolean) 11 601024 7293034 1791 [(0, .ref 1000), (1, .ref 0), (2, .ref 47), (3, .ref 90), (4, .int (iI (i:Nat)))] [] h' 91 c' s') :
    (zV X (PLW) cL_law 8 RL (some .boolean) 11 601024 7293034 638 [(0, .ref 1000), (1, .ref 0), (2, .ref 47), (3, .ref 90), (4, .int (iI (i:Nat)))] [] h 91 cells slots) := by
  have hL9 := hSc.l
  obtain ⟨wd, pt, tf, Q, qn, tc, L, th, g, hH, hM, h_90, hPL, hbb, htc, hQb⟩ := id hI
  obtain ⟨p1, e1⟩ : ∃ p, sc (i + 1) = p := ⟨_, rfl⟩
  have r1 := hSc.r (i + 1)
  rw [e1] at r1
  obtain ⟨p2, e2⟩ : ∃ p, sc (i + 2) = p := ⟨_, rfl⟩
  have r2 := hSc.r (i + 2)
  rw [e2] at r2
  obtain ⟨p3, e3⟩ : ∃ p, sc (i + 3) = p := ⟨_, rfl⟩
  have r3 := hSc.r (i + 3)
  rw [e3] at r3
  cases hx : (isP p1 && (isP p2 && isP p3)) with
  | false =>
    refine v_aload_n dL_law_638 rfl ?_
    refine v_aload_n dL_law_639 rfl ?_
    refine v_iload dL_law_640 rfl ?_
    refine v_iconst (iI 1) dL_law_642 rfl ?_
    refine w_iadd dL_law_643 ?_
    refine w_sld hSc (by decide) dL_law_644 (i + 1) (by omega) (by omega) e1 ?_
    refine v_aload_n dL_law_645 rfl ?_
    refine v_iload dL_law_646 rfl ?_
    refine v_iconst (iI 2) dL_law_648 rfl ?_
    refine w_iadd dL_law_649 ?_
    refine w_sld hSc (by decide) dL_law_650 (i + 2) (by omega) (by omega) e2 ?_
    refine v_aload_n dL_law_651 rfl ?_
    refine v_iload dL_law_652 rfl ?_
    refine v_iconst (iI 3) dL_law_654 rfl ?_
    refine w_iadd dL_law_655 ?_
    refine w_sld hSc (by decide) dL_law_656 (i + 3) (by omega) (by omega) e3 ?_
    refine v_cSW (av := [.ref 0, .int (iI p1), .int (iI p2), .int (iI p3)]) (st := []) hE zyL_add lL_138 (q_addI hH r1 r2 r3 hx) dL_law_657 rfl rfl (Nat.le_of_ble_eq_true rfl) (by omega) (by omega) (by omega) (Or.inl (fun _ _ _ q => ZN q)) (fun r9 G1 n9 q9 => ?_)
    obtain ⟨rfl, q9n, hH, fr1⟩ := q9
    have q9n := q9n.symm
    subst q9n
    have hM := hM.fr fr1 (by decide)
    have h_90 := (fr1 90 (by decide)).trans h_90
    obtain ⟨_, _, _, _, _, _, _, _, _, _, _, _, h_47, -⟩ := id hM
    refine v_istore (i := 5) (lv' := [(5, .int (iI 1)), (0, .ref 1000), (1, .ref 0), (2, .ref 47), (3, .ref 90), (4, .int (iI (i:Nat)))]) dL_law_660 (by decide) rfl ?_
    refine v_aload_n dL_law_662 rfl ?_
    refine v_aload_n dL_law_663 rfl ?_
    refine v_iload dL_law_664 rfl ?_
    refine v_iconst (iI 1) dL_law_666 rfl ?_
    refine w_iadd dL_law_667 ?_
    refine w_sld hSc (by decide) dL_law_668 (i + 1) (by omega) (by omega) e1 ?_
    refine v_aload_n dL_law_669 rfl ?_
    refine v_iload dL_law_670 rfl ?_
    refine v_iconst (iI 2) dL_law_672 rfl ?_
    refine w_iadd dL_law_673 ?_
    refine w_sld hSc (by decide) dL_law_674 (i + 2) (by omega) (by omega) e2 ?_
    refine v_aload_n dL_law_675 rfl ?_
    refine v_iload dL_law_676 rfl ?_
    refine v_iconst (iI 3) dL_law_678 rfl ?_
    refine w_iadd dL_law_679 ?_
    refine w_sld hSc (by decide) dL_law_680 (i + 3) (by omega) (by omega) e3 ?_
    refine v_cV (av := [.int (iI p1), .int (iI p2), .int (iI p3)]) (st := []) zyX11_add lL_140 h_47 rfl (p_Maddx (d := 10) hM r1 r2 r3 hx (by decide)) dL_law_681 rfl rfl (Nat.le_of_ble_eq_true rfl) (by omega) (by omega) (by omega) (Or.inl (fun _ _ _ q => ZN q)) (fun r9 G2 n9 q9 => ?_)
    obtain ⟨rfl, q9n, hM, fr2⟩ := q9
    have q9n := q9n.symm
    subst q9n
    have hH := hH.fr fr2 (by decide)
    have h_90 := (fr2 90 (by decide)).trans h_90
    obtain ⟨_, _, _, _, _, _, _, _, _, _, _, _, h_47, -⟩ := id hM
    refine v_aload_n dL_law_684 rfl ?_
    refine v_cV (av := []) (st := []) zyX11_thrown lL_111 h_47 rfl (p_thrown (d := 10) hM) dL_law_685 rfl rfl (Nat.le_of_ble_eq_true rfl) (by omega) (by omega) (by omega) (Or.inl (fun _ _ _ q => ZN q)) (fun r9 K1 n9 q9 => ?_)
    obtain ⟨rfl, q9n, q9h⟩ := q9
    have q9n := q9n.symm
    subst q9n
    have q9h := q9h.symm
    subst q9h
    refine v_iload dL_law_688 rfl ?_
    refine w_icmp_same 695 dL_law_690 (by decide) ?_
    refine v_goto 1791 dL_law_695 (by decide) ?_
    refine w_sub (lv2 := [(0, .ref 1000), (1, .ref 0), (2, .ref 47), (3, .ref 90), (4, .int (iI (i:Nat)))]) [1, 2, 3, 4, 5] rfl ?_
    exact kont _ _ _ ⟨wd, pt, tf, Q, qn, tc, L, _, _, hH, hM, h_90, hPL, hbb, htc, hQb.mono (by omega)⟩ (by omega) (by omega)
  | true =>
    rw [Bool.and_eq_true, Bool.and_eq_true] at hx
    obtain ⟨a1, q1, h1⟩ := n_P hx.1
    subst q1
    obtain ⟨a2, q2, h2⟩ := n_P hx.2.1
    subst q2
    obtain ⟨a3, q3, h3⟩ := n_P hx.2.2
    subst q3
    refine v_aload_n dL_law_638 rfl ?_
    refine v_aload_n dL_law_639 rfl ?_
    refine v_iload dL_law_640 rfl ?_
    refine v_iconst (iI 1) dL_law_642 rfl ?_
    refine w_iadd dL_law_643 ?_
    refine w_sld hSc (by decide) dL_law_644 (i + 1) (by omega) (by omega) e1 ?_
    refine v_aload_n dL_law_645 rfl ?_
    refine v_iload dL_law_646 rfl ?_
    refine v_iconst (iI 2) dL_law_648 rfl ?_
    refine w_iadd dL_law_649 ?_
    refine w_sld hSc (by decide) dL_law_650 (i + 2) (by omega) (by omega) e2 ?_
    refine v_aload_n dL_law_651 rfl ?_
    refine v_iload dL_law_652 rfl ?_
    refine v_iconst (iI 3) dL_law_654 rfl ?_
    refine w_iadd dL_law_655 ?_
    refine w_sld hSc (by decide) dL_law_656 (i + 3) (by omega) (by omega) e3 ?_
    refine v_cSW (av := [.ref 0, .int (iI (a1:Nat)), .int (iI (a2:Nat)), .int (iI (a3:Nat))]) (st := []) hE zyL_add lL_138 (q_add hH hPL h1 h2 h3) dL_law_657 rfl rfl (Nat.le_of_ble_eq_true rfl) (by omega) (by omega) (by omega) (Or.inl (fun _ _ _ q => ZN q)) (fun r9 G1 n9 q9 => ?_)
    obtain ⟨rfl, q9n, hH, fr1⟩ := q9
    have q9n := q9n.symm
    subst q9n
    have hM := hM.fr fr1 (by decide)
    have h_90 := (fr1 90 (by decide)).trans h_90
    obtain ⟨_, _, _, _, _, _, _, _, _, _, _, _, h_47, -⟩ := id hM
    refine v_istore (i := 5) (lv' := [(5, .int (iI 0)), (0, .ref 1000), (1, .ref 0), (2, .ref 47), (3, .ref 90), (4, .int (iI (i:Nat)))]) dL_law_660 (by decide) rfl ?_
    refine v_aload_n dL_law_662 rfl ?_
    refine v_aload_n dL_law_663 rfl ?_
    refine v_iload dL_law_664 rfl ?_
    refine v_iconst (iI 1) dL_law_666 rfl ?_
    refine w_iadd dL_law_667 ?_
    refine w_sld hSc (by decide) dL_law_668 (i + 1) (by omega) (by omega) e1 ?_
    refine v_aload_n dL_law_669 rfl ?_
    refine v_iload dL_law_670 rfl ?_
    refine v_iconst (iI 2) dL_law_672 rfl ?_
    refine w_iadd dL_law_673 ?_
    refine w_sld hSc (by decide) dL_law_674 (i + 2) (by omega) (by omega) e2 ?_
    refine v_aload_n dL_law_675 rfl ?_
    refine v_iload dL_law_676 rfl ?_
    refine v_iconst (iI 3) dL_law_678 rfl ?_
    refine w_iadd dL_law_679 ?_
    refine w_sld hSc (by decide) dL_law_680 (i + 3) (by omega) (by omega) e3 ?_
    refine v_cV (av := [.int (iI (a1:Nat)), .int (iI (a2:Nat)), .int (iI (a3:Nat))]) (st := []) zyX11_add lL_140 h_47 rfl (p_Madd (d := 10) hM hPL h1 h2 h3 (by decide)) dL_law_681 rfl rfl (Nat.le_of_ble_eq_true rfl) (by omega) (by omega) (by omega) (Or.inl (fun _ _ _ q => ZN q)) (fun r9 G2 n9 q9 => ?_)
    obtain ⟨rfl, q9n, hM, fr2⟩ := q9
    have q9n := q9n.symm
    subst q9n
    have hH := hH.fr fr2 (by decide)
    have h_90 := (fr2 90 (by decide)).trans h_90
    obtain ⟨_, _, _, _, _, _, _, _, _, _, _, _, h_47, -⟩ := id hM
    refine v_aload_n dL_law_684 rfl ?_
    refine v_cV (av := []) (st := []) zyX11_thrown lL_111 h_47 rfl (p_thrown (d := 10) hM) dL_law_685 rfl rfl (Nat.le_of_ble_eq_true rfl) (by omega) (by omega) (by omega) (Or.inl (fun _ _ _ q => ZN q)) (fun r9 K1 n9 q9 => ?_)
    obtain ⟨rfl, q9n, q9h⟩ := q9
    have q9n := q9n.symm
    subst q9n
    have q9h := q9h.symm
    subst q9h
    refine v_iload dL_law_688 rfl ?_
    refine w_icmp_same 695 dL_law_690 (by decide) ?_
    refine v_goto 1791 dL_law_695 (by decide) ?_
    refine w_sub (lv2 := [(0, .ref 1000), (1, .ref 0), (2, .ref 47), (3, .ref 90), (4, .int (iI (i:Nat)))]) [1, 2, 3, 4, 5] rfl ?_
    exact kont _ _ _ ⟨wd, zup pt a3 (mjn wd pt a1 a2 a3 1), tf, Q, qn, tc, L, _, _, hH, hM, h_90, hPL.up (if_lt (hf_lt (hPL a3 h3).1) (rdR_lt (hPL a3 h3).1)), hbb, htc, hQb.mono (by omega)⟩ (by omega) (by omega)
set_option maxHeartbeats 8000000 in
set_option maxRecDepth 100000 in
theorem c_less {X : zX} {i cells slots N L9 : Nat} {sc : Nat → Int} {h : zH} (hE : zLE X) (hSc : zSc X L9 sc) (hi : i + 6 ≤ L9) (hc : cells + 2 ≤ 601024) (hs : slots + 9 ≤ 7293034) (hN : N ≤ 20000) (hI : LI h N)
    (kont : ∀ (h' : zH) (c' s' : Nat), LI h' (N + 32) → c' ≤ cells + 2 → s' ≤ slots + 9 → zV X PLW cL_law 8 RL (some .boolean) 11 601024 7293034 1791 [(0, .ref 1000), (1, .ref 0), (2, .ref 47), (3, .ref 90), (4, .int (iI (i:Nat)))] [] h' 91 c' s') :
    (zV X (PLW) cL_law 8 RL (some .boolean) 11 601024 7293034 698 [(0, .ref 1000), (1, .ref 0), (2, .ref 47), (3, .ref 90), (4, .int (iI (i:Nat)))] [] h 91 cells slots) := by
  have hL9 := hSc.l
  obtain ⟨wd, pt, tf, Q, qn, tc, L, th, g, hH, hM, h_90, hPL, hbb, htc, hQb⟩ := id hI
  obtain ⟨p1, e1⟩ : ∃ p, sc (i + 1) = p := ⟨_, rfl⟩
  have r1 := hSc.r (i + 1)
  rw [e1] at r1
  obtain ⟨p2, e2⟩ : ∃ p, sc (i + 2) = p := ⟨_, rfl⟩
  have r2 := hSc.r (i + 2)
  rw [e2] at r2
  obtain ⟨p3, e3⟩ : ∃ p, sc (i + 3) = p := ⟨_, rfl⟩
  have r3 := hSc.r (i + 3)
  rw [e3] at r3
  cases hx : (isP p1 && (isP p2 && isP p3)) with
  | false =>
    refine v_aload_n dL_law_698 rfl ?_
    refine v_aload_n dL_law_699 rfl ?_
    refine v_iload dL_law_700 rfl ?_
    refine v_iconst (iI 1) dL_law_702 rfl ?_
    refine w_iadd dL_law_703 ?_
    refine w_sld hSc (by decide) dL_law_704 (i + 1) (by omega) (by omega) e1 ?_
    refine v_aload_n dL_law_705 rfl ?_
    refine v_iload dL_law_706 rfl ?_
    refine v_iconst (iI 2) dL_law_708 rfl ?_
    refine w_iadd dL_law_709 ?_
    refine w_sld hSc (by decide) dL_law_710 (i + 2) (by omega) (by omega) e2 ?_
    refine v_aload_n dL_law_711 rfl ?_
    refine v_iload dL_law_712 rfl ?_
    refine v_iconst (iI 3) dL_law_714 rfl ?_
    refine w_iadd dL_law_715 ?_
    refine w_sld hSc (by decide) dL_law_716 (i + 3) (by omega) (by omega) e3 ?_
    refine v_cSW (av := [.ref 0, .int (iI p1), .int (iI p2), .int (iI p3)]) (st := []) hE zyL_less lL_141 (q_lessI hH r1 r2 r3 hx) dL_law_717 rfl rfl (Nat.le_of_ble_eq_true rfl) (by omega) (by omega) (by omega) (Or.inl (fun _ _ _ q => ZN q)) (fun r9 G1 n9 q9 => ?_)
    obtain ⟨rfl, q9n, hH, fr1⟩ := q9
    have q9n := q9n.symm
    subst q9n
    have hM := hM.fr fr1 (by decide)
    have h_90 := (fr1 90 (by decide)).trans h_90
    obtain ⟨_, _, _, _, _, _, _, _, _, _, _, _, h_47, -⟩ := id hM
    refine v_istore (i := 5) (lv' := [(5, .int (iI 1)), (0, .ref 1000), (1, .ref 0), (2, .ref 47), (3, .ref 90), (4, .int (iI (i:Nat)))]) dL_law_720 (by decide) rfl ?_
    refine v_aload_n dL_law_722 rfl ?_
    refine v_aload_n dL_law_723 rfl ?_
    refine v_iload dL_law_724 rfl ?_
    refine v_iconst (iI 1) dL_law_726 rfl ?_
    refine w_iadd dL_law_727 ?_
    refine w_sld hSc (by decide) dL_law_728 (i + 1) (by omega) (by omega) e1 ?_
    refine v_aload_n dL_law_729 rfl ?_
    refine v_iload dL_law_730 rfl ?_
    refine v_iconst (iI 2) dL_law_732 rfl ?_
    refine w_iadd dL_law_733 ?_
    refine w_sld hSc (by decide) dL_law_734 (i + 2) (by omega) (by omega) e2 ?_
    refine v_aload_n dL_law_735 rfl ?_
    refine v_iload dL_law_736 rfl ?_
    refine v_iconst (iI 3) dL_law_738 rfl ?_
    refine w_iadd dL_law_739 ?_
    refine w_sld hSc (by decide) dL_law_740 (i + 3) (by omega) (by omega) e3 ?_
    refine v_cV (av := [.int (iI p1), .int (iI p2), .int (iI p3)]) (st := []) zyX11_less lL_143 h_47 rfl (p_Mlessx (d := 10) hM r1 r2 r3 hx (by decide)) dL_law_741 rfl rfl (Nat.le_of_ble_eq_true rfl) (by omega) (by omega) (by omega) (Or.inl (fun _ _ _ q => ZN q)) (fun r9 G2 n9 q9 => ?_)
    obtain ⟨rfl, q9n, hM, fr2⟩ := q9
    have q9n := q9n.symm
    subst q9n
    have hH := hH.fr fr2 (by decide)
    have h_90 := (fr2 90 (by decide)).trans h_90
    obtain ⟨_, _, _, _, _, _, _, _, _, _, _, _, h_47, -⟩ := id hM
    refine v_aload_n dL_law_744 rfl ?_
    refine v_cV (av := []) (st := []) zyX11_thrown lL_111 h_47 rfl (p_thrown (d := 10) hM) dL_law_745 rfl rfl (Nat.le_of_ble_eq_true rfl) (by omega) (by omega) (by omega) (Or.inl (fun _ _ _ q => ZN q)) (fun r9 K1 n9 q9 => ?_)
    obtain ⟨rfl, q9n, q9h⟩ := q9
    have q9n := q9n.symm
    subst q9n
    have q9h := q9h.symm
    subst q9h
    refine v_iload dL_law_748 rfl ?_
    refine w_icmp_same 755 dL_law_750 (by decide) ?_
    refine v_goto 1791 dL_law_755 (by decide) ?_
    refine w_sub (lv2 := [(0, .ref 1000), (1, .ref 0), (2, .ref 47), (3, .ref 90), (4, .int (iI (i:Nat)))]) [1, 2, 3, 4, 5] rfl ?_
    exact kont _ _ _ ⟨wd, pt, tf, Q, qn, tc, L, _, _, hH, hM, h_90, hPL, hbb, htc, hQb.mono (by omega)⟩ (by omega) (by omega)
  | true =>
    rw [Bool.and_eq_true, Bool.and_eq_true] at hx
    obtain ⟨a1, q1, h1⟩ := n_P hx.1
    subst q1
    obtain ⟨a2, q2, h2⟩ := n_P hx.2.1
    subst q2
    obtain ⟨a3, q3, h3⟩ := n_P hx.2.2
    subst q3
    refine v_aload_n dL_law_698 rfl ?_
    refine v_aload_n dL_law_699 rfl ?_
    refine v_iload dL_law_700 rfl ?_
    refine v_iconst (iI 1) dL_law_702 rfl ?_
    refine w_iadd dL_law_703 ?_
    refine w_sld hSc (by decide) dL_law_704 (i + 1) (by omega) (by omega) e1 ?_
    refine v_aload_n dL_law_705 rfl ?_
    refine v_iload dL_law_706 rfl ?_
    refine v_iconst (iI 2) dL_law_708 rfl ?_
    refine w_iadd dL_law_709 ?_
    refine w_sld hSc (by decide) dL_law_710 (i + 2) (by omega) (by omega) e2 ?_
    refine v_aload_n dL_law_711 rfl ?_
    refine v_iload dL_law_712 rfl ?_
    refine v_iconst (iI 3) dL_law_714 rfl ?_
    refine w_iadd dL_law_715 ?_
    refine w_sld hSc (by decide) dL_law_716 (i + 3) (by omega) (by omega) e3 ?_
    refine v_cSW (av := [.ref 0, .int (iI (a1:Nat)), .int (iI (a2:Nat)), .int (iI (a3:Nat))]) (st := []) hE zyL_less lL_141 (q_less hH hPL h1 h2 h3) dL_law_717 rfl rfl (Nat.le_of_ble_eq_true rfl) (by omega) (by omega) (by omega) (Or.inl (fun _ _ _ q => ZN q)) (fun r9 G1 n9 q9 => ?_)
    obtain ⟨rfl, q9n, hH, fr1⟩ := q9
    have q9n := q9n.symm
    subst q9n
    have hM := hM.fr fr1 (by decide)
    have h_90 := (fr1 90 (by decide)).trans h_90
    obtain ⟨_, _, _, _, _, _, _, _, _, _, _, _, h_47, -⟩ := id hM
    refine v_istore (i := 5) (lv' := [(5, .int (iI 0)), (0, .ref 1000), (1, .ref 0), (2, .ref 47), (3, .ref 90), (4, .int (iI (i:Nat)))]) dL_law_720 (by decide) rfl ?_
    refine v_aload_n dL_law_722 rfl ?_
    refine v_aload_n dL_law_723 rfl ?_
    refine v_iload dL_law_724 rfl ?_
    refine v_iconst (iI 1) dL_law_726 rfl ?_
    refine w_iadd dL_law_727 ?_
    refine w_sld hSc (by decide) dL_law_728 (i + 1) (by omega) (by omega) e1 ?_
    refine v_aload_n dL_law_729 rfl ?_
    refine v_iload dL_law_730 rfl ?_
    refine v_iconst (iI 2) dL_law_732 rfl ?_
    refine w_iadd dL_law_733 ?_
    refine w_sld hSc (by decide) dL_law_734 (i + 2) (by omega) (by omega) e2 ?_
    refine v_aload_n dL_law_735 rfl ?_
    refine v_iload dL_law_736 rfl ?_
    refine v_iconst (iI 3) dL_law_738 rfl ?_
    refine w_iadd dL_law_739 ?_
    refine w_sld hSc (by decide) dL_law_740 (i + 3) (by omega) (by omega) e3 ?_
    refine v_cV (av := [.int (iI (a1:Nat)), .int (iI (a2:Nat)), .int (iI (a3:Nat))]) (st := []) zyX11_less lL_143 h_47 rfl (p_Mless (d := 10) hM hPL h1 h2 h3 (by decide)) dL_law_741 rfl rfl (Nat.le_of_ble_eq_true rfl) (by omega) (by omega) (by omega) (Or.inl (fun _ _ _ q => ZN q)) (fun r9 G2 n9 q9 => ?_)
    obtain ⟨rfl, q9n, hM, fr2⟩ := q9
    have q9n := q9n.symm
    subst q9n
    have hH := hH.fr fr2 (by decide)
    have h_90 := (fr2 90 (by decide)).trans h_90
    obtain ⟨_, _, _, _, _, _, _, _, _, _, _, _, h_47, -⟩ := id hM
    refine v_aload_n dL_law_744 rfl ?_
    refine v_cV (av := []) (st := []) zyX11_thrown lL_111 h_47 rfl (p_thrown (d := 10) hM) dL_law_745 rfl rfl (Nat.le_of_ble_eq_true rfl) (by omega) (by omega) (by omega) (Or.inl (fun _ _ _ q => ZN q)) (fun r9 K1 n9 q9 => ?_)
    obtain ⟨rfl, q9n, q9h⟩ := q9
    have q9n := q9n.symm
    subst q9n
    have q9h := q9h.symm
    subst q9h
    refine v_iload dL_law_748 rfl ?_
    refine w_icmp_same 755 dL_law_750 (by decide) ?_
    refine v_goto 1791 dL_law_755 (by decide) ?_
    refine w_sub (lv2 := [(0, .ref 1000), (1, .ref 0), (2, .ref 47), (3, .ref 90), (4, .int (iI (i:Nat)))]) [1, 2, 3, 4, 5] rfl ?_
    exact kont _ _ _ ⟨wd, zup pt a3 (mjn wd pt a1 a2 a3 (-1)), tf, Q, qn, tc, L, _, _, hH, hM, h_90, hPL.up (if_lt (hf_lt (hPL a3 h3).1) (rdR_lt (hPL a3 h3).1)), hbb, htc, hQb.mono (by omega)⟩ (by omega) (by omega)
set_option maxHeartbeats 8000000 in
set_option maxRecDepth 100000 in
theorem c_times {X : zX} {i cells slots N L9 : Nat} {sc : Nat → Int} {h : zH} (hE : zLE X) (hSc : zSc X L9 sc) (hi : i + 6 ≤ L9) (hc : cells + 2 ≤ 601024) (hs : slots + 9 ≤ 7293034) (hN : N ≤ 20000) (hI : LI h N)
    (kont : ∀ (h' : zH) (c' s' : Nat), LI h' (N + 32) → c' ≤ cells + 2 → s' ≤ slots + 9 → zV X PLW cL_law 8 RL (some .boolean) 11 601024 7293034 1791 [(0, .ref 1000), (1, .ref 0), (2, .ref 47), (3, .ref 90), (4, .int (iI (i:Nat)))] [] h' 91 c' s') :
    (zV X (PLW) cL_law 8 RL (some .boolean) 11 601024 7293034 758 [(0, .ref 1000), (1, .ref 0), (2, .ref 47), (3, .ref 90), (4, .int (iI (i:Nat)))] [] h 91 cells slots) := by
  have hL9 := hSc.l
  obtain ⟨wd, pt, tf, Q, qn, tc, L, th, g, hH, hM, h_90, hPL, hbb, htc, hQb⟩ := id hI
  obtain ⟨p1, e1⟩ : ∃ p, sc (i + 1) = p := ⟨_, rfl⟩
  have r1 := hSc.r (i + 1)
  rw [e1] at r1
  obtain ⟨p2, e2⟩ : ∃ p, sc (i + 2) = p := ⟨_, rfl⟩
  have r2 := hSc.r (i + 2)
  rw [e2] at r2
  obtain ⟨p3, e3⟩ : ∃ p, sc (i + 3) = p := ⟨_, rfl⟩
  have r3 := hSc.r (i + 3)
  rw [e3] at r3
  cases hx : (isP p1 && (isP p2 && isP p3)) with
  | false =>
    refine v_aload_n dL_law_758 rfl ?_
    refine v_aload_n dL_law_759 rfl ?_
    refine v_iload dL_law_760 rfl ?_
    refine v_iconst (iI 1) dL_law_762 rfl ?_
    refine w_iadd dL_law_763 ?_
    refine w_sld hSc (by decide) dL_law_764 (i + 1) (by omega) (by omega) e1 ?_
    refine v_aload_n dL_law_765 rfl ?_
    refine v_iload dL_law_766 rfl ?_
    refine v_iconst (iI 2) dL_law_768 rfl ?_
    refine w_iadd dL_law_769 ?_
    refine w_sld hSc (by decide) dL_law_770 (i + 2) (by omega) (by omega) e2 ?_
    refine v_aload_n dL_law_771 rfl ?_
    refine v_iload dL_law_772 rfl ?_
    refine v_iconst (iI 3) dL_law_774 rfl ?_
    refine w_iadd dL_law_775 ?_
    refine w_sld hSc (by decide) dL_law_776 (i + 3) (by omega) (by omega) e3 ?_
    refine v_cSW (av := [.ref 0, .int (iI p1), .int (iI p2), .int (iI p3)]) (st := []) hE zyL_times lL_144 (q_timesI hH r1 r2 r3 hx) dL_law_777 rfl rfl (Nat.le_of_ble_eq_true rfl) (by omega) (by omega) (by omega) (Or.inl (fun _ _ _ q => ZN q)) (fun r9 G1 n9 q9 => ?_)
    obtain ⟨rfl, q9n, hH, fr1⟩ := q9
    have q9n := q9n.symm
    subst q9n
    have hM := hM.fr fr1 (by decide)
    have h_90 := (fr1 90 (by decide)).trans h_90
    obtain ⟨_, _, _, _, _, _, _, _, _, _, _, _, h_47, -⟩ := id hM
    refine v_istore (i := 5) (lv' := [(5, .int (iI 1)), (0, .ref 1000), (1, .ref 0), (2, .ref 47), (3, .ref 90), (4, .int (iI (i:Nat)))]) dL_law_780 (by decide) rfl ?_
    refine v_aload_n dL_law_782 rfl ?_
    refine v_aload_n dL_law_783 rfl ?_
    refine v_iload dL_law_784 rfl ?_
    refine v_iconst (iI 1) dL_law_786 rfl ?_
    refine w_iadd dL_law_787 ?_
    refine w_sld hSc (by decide) dL_law_788 (i + 1) (by omega) (by omega) e1 ?_
    refine v_aload_n dL_law_789 rfl ?_
    refine v_iload dL_law_790 rfl ?_
    refine v_iconst (iI 2) dL_law_792 rfl ?_
    refine w_iadd dL_law_793 ?_
    refine w_sld hSc (by decide) dL_law_794 (i + 2) (by omega) (by omega) e2 ?_
    refine v_aload_n dL_law_795 rfl ?_
    refine v_iload dL_law_796 rfl ?_
    refine v_iconst (iI 3) dL_law_798 rfl ?_
    refine w_iadd dL_law_799 ?_
    refine w_sld hSc (by decide) dL_law_800 (i + 3) (by omega) (by omega) e3 ?_
    refine v_cV (av := [.int (iI p1), .int (iI p2), .int (iI p3)]) (st := []) zyX11_times lL_146 h_47 rfl (p_Mtimesx (d := 10) hM r1 r2 r3 hx (by decide)) dL_law_801 rfl rfl (Nat.le_of_ble_eq_true rfl) (by omega) (by omega) (by omega) (Or.inl (fun _ _ _ q => ZN q)) (fun r9 G2 n9 q9 => ?_)
    obtain ⟨rfl, q9n, hM, fr2⟩ := q9
    have q9n := q9n.symm
    subst q9n
    have hH := hH.fr fr2 (by decide)
    have h_90 := (fr2 90 (by decide)).trans h_90
    obtain ⟨_, _, _, _, _, _, _, _, _, _, _, _, h_47, -⟩ := id hM
    refine v_aload_n dL_law_804 rfl ?_
    refine v_cV (av := []) (st := []) zyX11_thrown lL_111 h_47 rfl (p_thrown (d := 10) hM) dL_law_805 rfl rfl (Nat.le_of_ble_eq_true rfl) (by omega) (by omega) (by omega) (Or.inl (fun _ _ _ q => ZN q)) (fun r9 K1 n9 q9 => ?_)
    obtain ⟨rfl, q9n, q9h⟩ := q9
    have q9n := q9n.symm
    subst q9n
    have q9h := q9h.symm
    subst q9h
    refine v_iload dL_law_808 rfl ?_
    refine w_icmp_same 815 dL_law_810 (by decide) ?_
    refine v_goto 1791 dL_law_815 (by decide) ?_
    refine w_sub (lv2 := [(0, .ref 1000), (1, .ref 0), (2, .ref 47), (3, .ref 90), (4, .int (iI (i:Nat)))]) [1, 2, 3, 4, 5] rfl ?_
    exact kont _ _ _ ⟨wd, pt, tf, Q, qn, tc, L, _, _, hH, hM, h_90, hPL, hbb, htc, hQb.mono (by omega)⟩ (by omega) (by omega)
  | true =>
    rw [Bool.and_eq_true, Bool.and_eq_true] at hx
    obtain ⟨a1, q1, h1⟩ := n_P hx.1
    subst q1
    obtain ⟨a2, q2, h2⟩ := n_P hx.2.1
    subst q2
    obtain ⟨a3, q3, h3⟩ := n_P hx.2.2
    subst q3
    refine v_aload_n dL_law_758 rfl ?_
    refine v_aload_n dL_law_759 rfl ?_
    refine v_iload dL_law_760 rfl ?_
    refine v_iconst (iI 1) dL_law_762 rfl ?_
    refine w_iadd dL_law_763 ?_
    refine w_sld hSc (by decide) dL_law_764 (i + 1) (by omega) (by omega) e1 ?_
    refine v_aload_n dL_law_765 rfl ?_
    refine v_iload dL_law_766 rfl ?_
    refine v_iconst (iI 2) dL_law_768 rfl ?_
    refine w_iadd dL_law_769 ?_
    refine w_sld hSc (by decide) dL_law_770 (i + 2) (by omega) (by omega) e2 ?_
    refine v_aload_n dL_law_771 rfl ?_
    refine v_iload dL_law_772 rfl ?_
    refine v_iconst (iI 3) dL_law_774 rfl ?_
    refine w_iadd dL_law_775 ?_
    refine w_sld hSc (by decide) dL_law_776 (i + 3) (by omega) (by omega) e3 ?_
    refine v_cSW (av := [.ref 0, .int (iI (a1:Nat)), .int (iI (a2:Nat)), .int (iI (a3:Nat))]) (st := []) hE zyL_times lL_144 (q_times hH hPL h1 h2 h3) dL_law_777 rfl rfl (Nat.le_of_ble_eq_true rfl) (by omega) (by omega) (by omega) (Or.inl (fun _ _ _ q => ZN q)) (fun r9 G1 n9 q9 => ?_)
    obtain ⟨rfl, q9n, hH, fr1⟩ := q9
    have q9n := q9n.symm
    subst q9n
    have hM := hM.fr fr1 (by decide)
    have h_90 := (fr1 90 (by decide)).trans h_90
    obtain ⟨_, _, _, _, _, _, _, _, _, _, _, _, h_47, -⟩ := id hM
    refine v_istore (i := 5) (lv' := [(5, .int (iI 0)), (0, .ref 1000), (1, .ref 0), (2, .ref 47), (3, .ref 90), (4, .int (iI (i:Nat)))]) dL_law_780 (by decide) rfl ?_
    refine v_aload_n dL_law_782 rfl ?_
    refine v_aload_n dL_law_783 rfl ?_
    refine v_iload dL_law_784 rfl ?_
    refine v_iconst (iI 1) dL_law_786 rfl ?_
    refine w_iadd dL_law_787 ?_
    refine w_sld hSc (by decide) dL_law_788 (i + 1) (by omega) (by omega) e1 ?_
    refine v_aload_n dL_law_789 rfl ?_
    refine v_iload dL_law_790 rfl ?_
    refine v_iconst (iI 2) dL_law_792 rfl ?_
    refine w_iadd dL_law_793 ?_
    refine w_sld hSc (by decide) dL_law_794 (i + 2) (by omega) (by omega) e2 ?_
    refine v_aload_n dL_law_795 rfl ?_
    refine v_iload dL_law_796 rfl ?_
    refine v_iconst (iI 3) dL_law_798 rfl ?_
    refine w_iadd dL_law_799 ?_
    refine w_sld hSc (by decide) dL_law_800 (i + 3) (by omega) (by omega) e3 ?_
    refine v_cV (av := [.int (iI (a1:Nat)), .int (iI (a2:Nat)), .int (iI (a3:Nat))]) (st := []) zyX11_times lL_146 h_47 rfl (p_Mtimes (d := 10) hM hPL h1 h2 h3 (by decide)) dL_law_801 rfl rfl (Nat.le_of_ble_eq_true rfl) (by omega) (by omega) (by omega) (Or.inl (fun _ _ _ q => ZN q)) (fun r9 G2 n9 q9 => ?_)
    obtain ⟨rfl, q9n, hM, fr2⟩ := q9
    have q9n := q9n.symm
    subst q9n
    have hH := hH.fr fr2 (by decide)
    have h_90 := (fr2 90 (by decide)).trans h_90
    obtain ⟨_, _, _, _, _, _, _, _, _, _, _, _, h_47, -⟩ := id hM
    refine v_aload_n dL_law_804 rfl ?_
    refine v_cV (av := []) (st := []) zyX11_thrown lL_111 h_47 rfl (p_thrown (d := 10) hM) dL_law_805 rfl rfl (Nat.le_of_ble_eq_true rfl) (by omega) (by omega) (by omega) (Or.inl (fun _ _ _ q => ZN q)) (fun r9 K1 n9 q9 => ?_)
    obtain ⟨rfl, q9n, q9h⟩ := q9
    have q9n := q9n.symm
    subst q9n
    have q9h := q9h.symm
    subst q9h
    refine v_iload dL_law_808 rfl ?_
    refine w_icmp_same 815 dL_law_810 (by decide) ?_
    refine v_goto 1791 dL_law_815 (by decide) ?_
    refine w_sub (lv2 := [(0, .ref 1000), (1, .ref 0), (2, .ref 47), (3, .ref 90), (4, .int (iI (i:Nat)))]) [1, 2, 3, 4, 5] rfl ?_
    exact kont _ _ _ ⟨wd, zup pt a3 (mtm wd pt a1 a2 a3), tf, Q, qn, tc, L, _, _, hH, hM, h_90, hPL.up (if_lt (hf_lt (hPL a3 h3).1) (rdR_lt (hPL a3 h3).1)), hbb, htc, hQb.mono (by omega)⟩ (by omega) (by omega)
set_option maxHeartbeats 8000000 in
set_option maxRecDepth 100000 in
theorem c_over {X : zX} {i cells slots N L9 : Nat} {sc : Nat → Int} {h : zH} (hE : zLE X) (hSc : zSc X L9 sc) (hi : i + 6 ≤ L9) (hc : cells + 2 ≤ 601024) (hs : slots + 9 ≤ 7293034) (hN : N ≤ 20000) (hI : LI h N)
    (kont : ∀ (h' : zH) (c' s' : Nat), LI h' (N + 32) → c' ≤ cells + 2 → s' ≤ slots + 9 → zV X PLW cL_law 8 RL (some .boolean) 11 601024 7293034 1791 [(0, .ref 1000), (1, .ref 0), (2, .ref 47), (3, .ref 90), (4, .int (iI (i:Nat)))] [] h' 91 c' s') :
    (zV X (PLW) cL_law 8 RL (some .boolean) 11 601024 7293034 818 [(0, .ref 1000), (1, .ref 0), (2, .ref 47), (3, .ref 90), (4, .int (iI (i:Nat)))] [] h 91 cells slots) := by
  have hL9 := hSc.l
  obtain ⟨wd, pt, tf, Q, qn, tc, L, th, g, hH, hM, h_90, hPL, hbb, htc, hQb⟩ := id hI
  obtain ⟨p1, e1⟩ : ∃ p, sc (i + 1) = p := ⟨_, rfl⟩
  have r1 := hSc.r (i + 1)
  rw [e1] at r1
  obtain ⟨p2, e2⟩ : ∃ p, sc (i + 2) = p := ⟨_, rfl⟩
  have r2 := hSc.r (i + 2)
  rw [e2] at r2
  obtain ⟨p3, e3⟩ : ∃ p, sc (i + 3) = p := ⟨_, rfl⟩
  have r3 := hSc.r (i + 3)
  rw [e3] at r3
  cases hx : (isP p1 && (isP p2 && isP p3)) with
  | false =>
    refine v_aload_n dL_law_818 rfl ?_
    refine v_aload_n dL_law_819 rfl ?_
    refine v_iload dL_law_820 rfl ?_
    refine v_iconst (iI 1) dL_law_822 rfl ?_
    refine w_iadd dL_law_823 ?_
    refine w_sld hSc (by decide) dL_law_824 (i + 1) (by omega) (by omega) e1 ?_
    refine v_aload_n dL_law_825 rfl ?_
    refine v_iload dL_law_826 rfl ?_
    refine v_iconst (iI 2) dL_law_828 rfl ?_
    refine w_iadd dL_law_829 ?_
    refine w_sld hSc (by decide) dL_law_830 (i + 2) (by omega) (by omega) e2 ?_
    refine v_aload_n dL_law_831 rfl ?_
    refine v_iload dL_law_832 rfl ?_
    refine v_iconst (iI 3) dL_law_834 rfl ?_
    refine w_iadd dL_law_835 ?_
    refine w_sld hSc (by decide) dL_law_836 (i + 3) (by omega) (by omega) e3 ?_
    refine v_cSW (av := [.ref 0, .int (iI p1), .int (iI p2), .int (iI p3)]) (st := []) hE zyL_over lL_147 (q_overI hH r1 r2 r3 hx) dL_law_837 rfl rfl (Nat.le_of_ble_eq_true rfl) (by omega) (by omega) (by omega) (Or.inl (fun _ _ _ q => ZN q)) (fun r9 G1 n9 q9 => ?_)
    obtain ⟨rfl, q9n, hH, fr1⟩ := q9
    have q9n := q9n.symm
    subst q9n
    have hM := hM.fr fr1 (by decide)
    have h_90 := (fr1 90 (by decide)).trans h_90
    obtain ⟨_, _, _, _, _, _, _, _, _, _, _, _, h_47, -⟩ := id hM
    refine v_istore (i := 5) (lv' := [(5, .int (iI 1)), (0, .ref 1000), (1, .ref 0), (2, .ref 47), (3, .ref 90), (4, .int (iI (i:Nat)))]) dL_law_840 (by decide) rfl ?_
    refine v_aload_n dL_law_842 rfl ?_
    refine v_aload_n dL_law_843 rfl ?_
    refine v_iload dL_law_844 rfl ?_
    refine v_iconst (iI 1) dL_law_846 rfl ?_
    refine w_iadd dL_law_847 ?_
    refine w_sld hSc (by decide) dL_law_848 (i + 1) (by omega) (by omega) e1 ?_
    refine v_aload_n dL_law_849 rfl ?_
    refine v_iload dL_law_850 rfl ?_
    refine v_iconst (iI 2) dL_law_852 rfl ?_
    refine w_iadd dL_law_853 ?_
    refine w_sld hSc (by decide) dL_law_854 (i + 2) (by omega) (by omega) e2 ?_
    refine v_aload_n dL_law_855 rfl ?_
    refine v_iload dL_law_856 rfl ?_
    refine v_iconst (iI 3) dL_law_858 rfl ?_
    refine w_iadd dL_law_859 ?_
    refine w_sld hSc (by decide) dL_law_860 (i + 3) (by omega) (by omega) e3 ?_
    refine v_cV (av := [.int (iI p1), .int (iI p2), .int (iI p3)]) (st := []) zyX11_over lL_149 h_47 rfl (p_Moverx (d := 10) hM r1 r2 r3 hx (by decide)) dL_law_861 rfl rfl (Nat.le_of_ble_eq_true rfl) (by omega) (by omega) (by omega) (Or.inl (fun _ _ _ q => ZN q)) (fun r9 G2 n9 q9 => ?_)
    obtain ⟨rfl, q9n, hM, fr2⟩ := q9
    have q9n := q9n.symm
    subst q9n
    have hH := hH.fr fr2 (by decide)
    have h_90 := (fr2 90 (by decide)).trans h_90
    obtain ⟨_, _, _, _, _, _, _, _, _, _, _, _, h_47, -⟩ := id hM
    refine v_aload_n dL_law_864 rfl ?_
    refine v_cV (av := []) (st := []) zyX11_thrown lL_111 h_47 rfl (p_thrown (d := 10) hM) dL_law_865 rfl rfl (Nat.le_of_ble_eq_true rfl) (by omega) (by omega) (by omega) (Or.inl (fun _ _ _ q => ZN q)) (fun r9 K1 n9 q9 => ?_)
    obtain ⟨rfl, q9n, q9h⟩ := q9
    have q9n := q9n.symm
    subst q9n
    have q9h := q9h.symm
    subst q9h
    refine v_iload dL_law_868 rfl ?_
    refine w_icmp_same 875 dL_law_870 (by decide) ?_
    refine v_goto 1791 dL_law_875 (by decide) ?_
    refine w_sub (lv2 := [(0, .ref 1000), (1, .ref 0), (2, .ref 47), (3, .ref 90), (4, .int (iI (i:Nat)))]) [1, 2, 3, 4, 5] rfl ?_
    exact kont _ _ _ ⟨wd, pt, tf, Q, qn, tc, L, _, _, hH, hM, h_90, hPL, hbb, htc, hQb.mono (by omega)⟩ (by omega) (by omega)
  | true =>
    rw [Bool.and_eq_true, Bool.and_eq_true] at hx
    obtain ⟨a1, q1, h1⟩ := n_P hx.1
    subst q1
    obtain ⟨a2, q2, h2⟩ := n_P hx.2.1
    subst q2
    obtain ⟨a3, q3, h3⟩ := n_P hx.2.2
    subst q3
    refine v_aload_n dL_law_818 rfl ?_
    refine v_aload_n dL_law_819 rfl ?_
    refine v_iload dL_law_820 rfl ?_
    refine v_iconst (iI 1) dL_law_822 rfl ?_
    refine w_iadd dL_law_823 ?_
    refine w_sld hSc (by decide) dL_law_824 (i + 1) (by omega) (by omega) e1 ?_
    refine v_aload_n dL_law_825 rfl ?_
    refine v_iload dL_law_826 rfl ?_
    refine v_iconst (iI 2) dL_law_828 rfl ?_
    refine w_iadd dL_law_829 ?_
    refine w_sld hSc (by decide) dL_law_830 (i + 2) (by omega) (by omega) e2 ?_
    refine v_aload_n dL_law_831 rfl ?_
    refine v_iload dL_law_832 rfl ?_
    refine v_iconst (iI 3) dL_law_834 rfl ?_
    refine w_iadd dL_law_835 ?_
    refine w_sld hSc (by decide) dL_law_836 (i + 3) (by omega) (by omega) e3 ?_
    refine v_cSW (av := [.ref 0, .int (iI (a1:Nat)), .int (iI (a2:Nat)), .int (iI (a3:Nat))]) (st := []) hE zyL_over lL_147 (q_over hH hPL h1 h2 h3) dL_law_837 rfl rfl (Nat.le_of_ble_eq_true rfl) (by omega) (by omega) (by omega) (Or.inl (fun _ _ _ q => ZN q)) (fun r9 G1 n9 q9 => ?_)
    obtain ⟨rfl, q9n, hH, fr1⟩ := q9
    have q9n := q9n.symm
    subst q9n
    have hM := hM.fr fr1 (by decide)
    have h_90 := (fr1 90 (by decide)).trans h_90
    obtain ⟨_, _, _, _, _, _, _, _, _, _, _, _, h_47, -⟩ := id hM
    refine v_istore (i := 5) (lv' := [(5, .int (iI 0)), (0, .ref 1000), (1, .ref 0), (2, .ref 47), (3, .ref 90), (4, .int (iI (i:Nat)))]) dL_law_840 (by decide) rfl ?_
    refine v_aload_n dL_law_842 rfl ?_
    refine v_aload_n dL_law_843 rfl ?_
    refine v_iload dL_law_844 rfl ?_
    refine v_iconst (iI 1) dL_law_846 rfl ?_
    refine w_iadd dL_law_847 ?_
    refine w_sld hSc (by decide) dL_law_848 (i + 1) (by omega) (by omega) e1 ?_
    refine v_aload_n dL_law_849 rfl ?_
    refine v_iload dL_law_850 rfl ?_
    refine v_iconst (iI 2) dL_law_852 rfl ?_
    refine w_iadd dL_law_853 ?_
    refine w_sld hSc (by decide) dL_law_854 (i + 2) (by omega) (by omega) e2 ?_
    refine v_aload_n dL_law_855 rfl ?_
    refine v_iload dL_law_856 rfl ?_
    refine v_iconst (iI 3) dL_law_858 rfl ?_
    refine w_iadd dL_law_859 ?_
    refine w_sld hSc (by decide) dL_law_860 (i + 3) (by omega) (by omega) e3 ?_
    refine v_cV (av := [.int (iI (a1:Nat)), .int (iI (a2:Nat)), .int (iI (a3:Nat))]) (st := []) zyX11_over lL_149 h_47 rfl (p_Mover (d := 10) hM hPL h1 h2 h3 (by decide)) dL_law_861 rfl rfl (Nat.le_of_ble_eq_true rfl) (by omega) (by omega) (by omega) (Or.inl (fun _ _ _ q => ZN q)) (fun r9 G2 n9 q9 => ?_)
    obtain ⟨rfl, q9n, hM, fr2⟩ := q9
    have q9n := q9n.symm
    subst q9n
    have hH := hH.fr fr2 (by decide)
    have h_90 := (fr2 90 (by decide)).trans h_90
    obtain ⟨_, _, _, _, _, _, _, _, _, _, _, _, h_47, -⟩ := id hM
    refine v_aload_n dL_law_864 rfl ?_
    refine v_cV (av := []) (st := []) zyX11_thrown lL_111 h_47 rfl (p_thrown (d := 10) hM) dL_law_865 rfl rfl (Nat.le_of_ble_eq_true rfl) (by omega) (by omega) (by omega) (Or.inl (fun _ _ _ q => ZN q)) (fun r9 K1 n9 q9 => ?_)
    obtain ⟨rfl, q9n, q9h⟩ := q9
    have q9n := q9n.symm
    subst q9n
    have q9h := q9h.symm
    subst q9h
    refine v_iload dL_law_868 rfl ?_
    refine w_icmp_same 875 dL_law_870 (by decide) ?_
    refine v_goto 1791 dL_law_875 (by decide) ?_
    refine w_sub (lv2 := [(0, .ref 1000), (1, .ref 0), (2, .ref 47), (3, .ref 90), (4, .int (iI (i:Nat)))]) [1, 2, 3, 4, 5] rfl ?_
    exact kont _ _ _ ⟨wd, zup pt a3 (mov wd pt a1 a2 a3), tf, Q, qn, tc, L, _, _, hH, hM, h_90, hPL.up (if_lt (hf_lt (hPL a3 h3).1) (rdR_lt (hPL a3 h3).1)), hbb, htc, hQb.mono (by omega)⟩ (by omega) (by omega)
set_option maxHeartbeats 8000000 in
set_option maxRecDepth 100000 in
theorem c_fused {X : zX} {i cells slots N L9 : Nat} {sc : Nat → Int} {h : zH} (hE : zLE X) (hSc : zSc X L9 sc) (hi : i + 6 ≤ L9) (hc : cells + 2 ≤ 601024) (hs : slots + 9 ≤ 7293034) (hN : N ≤ 20000) (hI : LI h N)
    (kont : ∀ (h' : zH) (c' s' : Nat), LI h' (N + 32) → c' ≤ cells + 2 → s' ≤ slots + 9 → zV X PLW cL_law 8 RL (some .boolean) 11 601024 7293034 1791 [(0, .ref 1000), (1, .ref 0), (2, .ref 47), (3, .ref 90), (4, .int (iI (i:Nat)))] [] h' 91 c' s') :
    (zV X (PLW) cL_law 8 RL (some .boolean) 11 601024 7293034 878 [(0, .ref 1000), (1, .ref 0), (2, .ref 47), (3, .ref 90), (4, .int (iI (i:Nat)))] [] h 91 cells slots) := by
  have hL9 := hSc.l
  obtain ⟨wd, pt, tf, Q, qn, tc, L, th, g, hH, hM, h_90, hPL, hbb, htc, hQb⟩ := id hI
  obtain ⟨p1, e1⟩ : ∃ p, sc (i + 1) = p := ⟨_, rfl⟩
  have r1 := hSc.r (i + 1)
  rw [e1] at r1
  obtain ⟨p2, e2⟩ : ∃ p, sc (i + 2) = p := ⟨_, rfl⟩
  have r2 := hSc.r (i + 2)
  rw [e2] at r2
  obtain ⟨p3, e3⟩ : ∃ p, sc (i + 3) = p := ⟨_, rfl⟩
  have r3 := hSc.r (i + 3)
  rw [e3] at r3
  cases hx : (isP p1 && (isP p2 && isP p3)) with
  | false =>
    refine v_aload_n dL_law_878 rfl ?_
    refine v_aload_n dL_law_879 rfl ?_
    refine v_iload dL_law_880 rfl ?_
    refine v_iconst (iI 1) dL_law_882 rfl ?_
    refine w_iadd dL_law_883 ?_
    refine w_sld hSc (by decide) dL_law_884 (i + 1) (by omega) (by omega) e1 ?_
    refine v_aload_n dL_law_885 rfl ?_
    refine v_iload dL_law_886 rfl ?_
    refine v_iconst (iI 2) dL_law_888 rfl ?_
    refine w_iadd dL_law_889 ?_
    refine w_sld hSc (by decide) dL_law_890 (i + 2) (by omega) (by omega) e2 ?_
    refine v_aload_n dL_law_891 rfl ?_
    refine v_iload dL_law_892 rfl ?_
    refine v_iconst (iI 3) dL_law_894 rfl ?_
    refine w_iadd dL_law_895 ?_
    refine w_sld hSc (by decide) dL_law_896 (i + 3) (by omega) (by omega) e3 ?_
    refine v_cSW (av := [.ref 0, .int (iI p1), .int (iI p2), .int (iI p3)]) (st := []) hE zyL_fused lL_150 (q_fusedI hH r1 r2 r3 hx) dL_law_897 rfl rfl (Nat.le_of_ble_eq_true rfl) (by omega) (by omega) (by omega) (Or.inl (fun _ _ _ q => ZN q)) (fun r9 G1 n9 q9 => ?_)
    obtain ⟨rfl, q9n, hH, fr1⟩ := q9
    have q9n := q9n.symm
    subst q9n
    have hM := hM.fr fr1 (by decide)
    have h_90 := (fr1 90 (by decide)).trans h_90
    obtain ⟨_, _, _, _, _, _, _, _, _, _, _, _, h_47, -⟩ := id hM
    refine v_istore (i := 5) (lv' := [(5, .int (iI 1)), (0, .ref 1000), (1, .ref 0), (2, .ref 47), (3, .ref 90), (4, .int (iI (i:Nat)))]) dL_law_900 (by decide) rfl ?_
    refine v_aload_n dL_law_902 rfl ?_
    refine v_aload_n dL_law_903 rfl ?_
    refine v_iload dL_law_904 rfl ?_
    refine v_iconst (iI 1) dL_law_906 rfl ?_
    refine w_iadd dL_law_907 ?_
    refine w_sld hSc (by decide) dL_law_908 (i + 1) (by omega) (by omega) e1 ?_
    refine v_aload_n dL_law_909 rfl ?_
    refine v_iload dL_law_910 rfl ?_
    refine v_iconst (iI 2) dL_law_912 rfl ?_
    refine w_iadd dL_law_913 ?_
    refine w_sld hSc (by decide) dL_law_914 (i + 2) (by omega) (by omega) e2 ?_
    refine v_aload_n dL_law_915 rfl ?_
    refine v_iload dL_law_916 rfl ?_
    refine v_iconst (iI 3) dL_law_918 rfl ?_
    refine w_iadd dL_law_919 ?_
    refine w_sld hSc (by decide) dL_law_920 (i + 3) (by omega) (by omega) e3 ?_
    refine v_cV (av := [.int (iI p1), .int (iI p2), .int (iI p3)]) (st := []) zyX11_fused lL_152 h_47 rfl (p_Mfusedx (d := 10) hM r1 r2 r3 hx (by decide)) dL_law_921 rfl rfl (Nat.le_of_ble_eq_true rfl) (by omega) (by omega) (by omega) (Or.inl (fun _ _ _ q => ZN q)) (fun r9 G2 n9 q9 => ?_)
    obtain ⟨rfl, q9n, hM, fr2⟩ := q9
    have q9n := q9n.symm
    subst q9n
    have hH := hH.fr fr2 (by decide)
    have h_90 := (fr2 90 (by decide)).trans h_90
    obtain ⟨_, _, _, _, _, _, _, _, _, _, _, _, h_47, -⟩ := id hM
    refine v_aload_n dL_law_924 rfl ?_
    refine v_cV (av := []) (st := []) zyX11_thrown lL_111 h_47 rfl (p_thrown (d := 10) hM) dL_law_925 rfl rfl (Nat.le_of_ble_eq_true rfl) (by omega) (by omega) (by omega) (Or.inl (fun _ _ _ q => ZN q)) (fun r9 K1 n9 q9 => ?_)
    obtain ⟨rfl, q9n, q9h⟩ := q9
    have q9n := q9n.symm
    subst q9n
    have q9h := q9h.symm
    subst q9h
    refine v_iload dL_law_928 rfl ?_
    refine w_icmp_same 935 dL_law_930 (by decide) ?_
    refine v_goto 1791 dL_law_935 (by decide) ?_
    refine w_sub (lv2 := [(0, .ref 1000), (1, .ref 0), (2, .ref 47), (3, .ref 90), (4, .int (iI (i:Nat)))]) [1, 2, 3, 4, 5] rfl ?_
    exact kont _ _ _ ⟨wd, pt, tf, Q, qn, tc, L, _, _, hH, hM, h_90, hPL, hbb, htc, hQb.mono (by omega)⟩ (by omega) (by omega)
  | true =>
    rw [Bool.and_eq_true, Bool.and_eq_true] at hx
    obtain ⟨a1, q1, h1⟩ := n_P hx.1
    subst q1
    obtain ⟨a2, q2, h2⟩ := n_P hx.2.1
    subst q2
    obtain ⟨a3, q3, h3⟩ := n_P hx.2.2
    subst q3
    refine v_aload_n dL_law_878 rfl ?_
    refine v_aload_n dL_law_879 rfl ?_
    refine v_iload dL_law_880 rfl ?_
    refine v_iconst (iI 1) dL_law_882 rfl ?_
    refine w_iadd dL_law_883 ?_
    refine w_sld hSc (by decide) dL_law_884 (i + 1) (by omega) (by omega) e1 ?_
    refine v_aload_n dL_law_885 rfl ?_
    refine v_iload dL_law_886 rfl ?_
    refine v_iconst (iI 2) dL_law_888 rfl ?_
    refine w_iadd dL_law_889 ?_
    refine w_sld hSc (by decide) dL_law_890 (i + 2) (by omega) (by omega) e2 ?_
    refine v_aload_n dL_law_891 rfl ?_
    refine v_iload dL_law_892 rfl ?_
    refine v_iconst (iI 3) dL_law_894 rfl ?_
    refine w_iadd dL_law_895 ?_
    refine w_sld hSc (by decide) dL_law_896 (i + 3) (by omega) (by omega) e3 ?_
    refine v_cSW (av := [.ref 0, .int (iI (a1:Nat)), .int (iI (a2:Nat)), .int (iI (a3:Nat))]) (st := []) hE zyL_fused lL_150 (q_fused hH hPL h1 h2 h3) dL_law_897 rfl rfl (Nat.le_of_ble_eq_true rfl) (by omega) (by omega) (by omega) (Or.inl (fun _ _ _ q => ZN q)) (fun r9 G1 n9 q9 => ?_)
    obtain ⟨rfl, q9n, hH, fr1⟩ := q9
    have q9n := q9n.symm
    subst q9n
    have hM := hM.fr fr1 (by decide)
    have h_90 := (fr1 90 (by decide)).trans h_90
    obtain ⟨_, _, _, _, _, _, _, _, _, _, _, _, h_47, -⟩ := id hM
    refine v_istore (i := 5) (lv' := [(5, .int (iI 0)), (0, .ref 1000), (1, .ref 0), (2, .ref 47), (3, .ref 90), (4, .int (iI (i:Nat)))]) dL_law_900 (by decide) rfl ?_
    refine v_aload_n dL_law_902 rfl ?_
    refine v_aload_n dL_law_903 rfl ?_
    refine v_iload dL_law_904 rfl ?_
    refine v_iconst (iI 1) dL_law_906 rfl ?_
    refine w_iadd dL_law_907 ?_
    refine w_sld hSc (by decide) dL_law_908 (i + 1) (by omega) (by omega) e1 ?_
    refine v_aload_n dL_law_909 rfl ?_
    refine v_iload dL_law_910 rfl ?_
    refine v_iconst (iI 2) dL_law_912 rfl ?_
    refine w_iadd dL_law_913 ?_
    refine w_sld hSc (by decide) dL_law_914 (i + 2) (by omega) (by omega) e2 ?_
    refine v_aload_n dL_law_915 rfl ?_
    refine v_iload dL_law_916 rfl ?_
    refine v_iconst (iI 3) dL_law_918 rfl ?_
    refine w_iadd dL_law_919 ?_
    refine w_sld hSc (by decide) dL_law_920 (i + 3) (by omega) (by omega) e3 ?_
    refine v_cV (av := [.int (iI (a1:Nat)), .int (iI (a2:Nat)), .int (iI (a3:Nat))]) (st := []) zyX11_fused lL_152 h_47 rfl (p_Mfused (d := 10) hM hPL h1 h2 h3 (by decide)) dL_law_921 rfl rfl (Nat.le_of_ble_eq_true rfl) (by omega) (by omega) (by omega) (Or.inl (fun _ _ _ q => ZN q)) (fun r9 G2 n9 q9 => ?_)
    obtain ⟨rfl, q9n, hM, fr2⟩ := q9
    have q9n := q9n.symm
    subst q9n
    have hH := hH.fr fr2 (by decide)
    have h_90 := (fr2 90 (by decide)).trans h_90
    obtain ⟨_, _, _, _, _, _, _, _, _, _, _, _, h_47, -⟩ := id hM
    refine v_aload_n dL_law_924 rfl ?_
    refine v_cV (av := []) (st := []) zyX11_thrown lL_111 h_47 rfl (p_thrown (d := 10) hM) dL_law_925 rfl rfl (Nat.le_of_ble_eq_true rfl) (by omega) (by omega) (by omega) (Or.inl (fun _ _ _ q => ZN q)) (fun r9 K1 n9 q9 => ?_)
    obtain ⟨rfl, q9n, q9h⟩ := q9
    have q9n := q9n.symm
    subst q9n
    have q9h := q9h.symm
    subst q9h
    refine v_iload dL_law_928 rfl ?_
    refine w_icmp_same 935 dL_law_930 (by decide) ?_
    refine v_goto 1791 dL_law_935 (by decide) ?_
    refine w_sub (lv2 := [(0, .ref 1000), (1, .ref 0), (2, .ref 47), (3, .ref 90), (4, .int (iI (i:Nat)))]) [1, 2, 3, 4, 5] rfl ?_
    exact kont _ _ _ ⟨wd, zup pt a3 (mfu wd pt a1 a2 a3), tf, Q, qn, tc, L, _, _, hH, hM, h_90, hPL.up (if_lt (hf_lt (hPL a3 h3).1) (rdR_lt (hPL a3 h3).1)), hbb, htc, hQb.mono (by omega)⟩ (by omega) (by omega)
set_option maxHeartbeats 8000000 in
set_option maxRecDepth 100000 in
theorem c_far {X : zX} {i cells slots N L9 : Nat} {sc : Nat → Int} {h : zH} (hE : zLE X) (hSc : zSc X L9 sc) (hi : i + 6 ≤ L9) (hc : cells + 2 ≤ 601024) (hs : slots + 9 ≤ 7293034) (hN : N ≤ 20000) (hI : LI h N)
    (kont : ∀ (h' : zH) (c' s' : Nat), LI h' (N + 32) → c' ≤ cells + 2 → s' ≤ slots + 9 → zV X PLW cL_law 8 RL (some .boolean) 11 601024 7293034 1791 [(0, .ref 1000), (1, .ref 0), (2, .ref 47), (3, .ref 90), (4, .int (iI (i:Nat)))] [] h' 91 c' s') :
    (zV X (PLW) cL_law 8 RL (some .boolean) 11 601024 7293034 1046 [(0, .ref 1000), (1, .ref 0), (2, .ref 47), (3, .ref 90), (4, .int (iI (i:Nat)))] [] h 91 cells slots) := by
  have hL9 := hSc.l
  obtain ⟨wd, pt, tf, Q, qn, tc, L, th, g, hH, hM, h_90, hPL, hbb, htc, hQb⟩ := id hI
  obtain ⟨p1, e1⟩ : ∃ p, sc (i + 1) = p := ⟨_, rfl⟩
  have r1 := hSc.r (i + 1)
  rw [e1] at r1
  obtain ⟨p2, e2⟩ : ∃ p, sc (i + 2) = p := ⟨_, rfl⟩
  have r2 := hSc.r (i + 2)
  rw [e2] at r2
  obtain ⟨p3, e3⟩ : ∃ p, sc (i + 3) = p := ⟨_, rfl⟩
  have r3 := hSc.r (i + 3)
  rw [e3] at r3
  cases hx : (isP p1 && (isP p2 && isP p3)) with
  | false =>
    refine v_aload_n dL_law_1046 rfl ?_
    refine v_aload_n dL_law_1047 rfl ?_
    refine v_iload dL_law_1048 rfl ?_
    refine v_iconst (iI 1) dL_law_1050 rfl ?_
    refine w_iadd dL_law_1051 ?_
    refine w_sld hSc (by decide) dL_law_1052 (i + 1) (by omega) (by omega) e1 ?_
    refine v_aload_n dL_law_1053 rfl ?_
    refine v_iload dL_law_1054 rfl ?_
    refine v_iconst (iI 2) dL_law_1056 rfl ?_
    refine w_iadd dL_law_1057 ?_
    refine w_sld hSc (by decide) dL_law_1058 (i + 2) (by omega) (by omega) e2 ?_
    refine v_aload_n dL_law_1059 rfl ?_
    refine v_iload dL_law_1060 rfl ?_
    refine v_iconst (iI 3) dL_law_1062 rfl ?_
    refine w_iadd dL_law_1063 ?_
    refine w_sld hSc (by decide) dL_law_1064 (i + 3) (by omega) (by omega) e3 ?_
    refine v_cSW (av := [.ref 0, .int (iI p1), .int (iI p2), .int (iI p3)]) (st := []) hE zyL_far lL_160 (q_farI hH r1 r2 r3 hx) dL_law_1065 rfl rfl (Nat.le_of_ble_eq_true rfl) (by omega) (by omega) (by omega) (Or.inl (fun _ _ _ q => ZN q)) (fun r9 G1 n9 q9 => ?_)
    obtain ⟨rfl, q9n, hH, fr1⟩ := q9
    have q9n := q9n.symm
    subst q9n
    have hM := hM.fr fr1 (by decide)
    have h_90 := (fr1 90 (by decide)).trans h_90
    obtain ⟨_, _, _, _, _, _, _, _, _, _, _, _, h_47, -⟩ := id hM
    refine v_istore (i := 5) (lv' := [(5, .int (iI 1)), (0, .ref 1000), (1, .ref 0), (2, .ref 47), (3, .ref 90), (4, .int (iI (i:Nat)))]) dL_law_1068 (by decide) rfl ?_
    refine v_aload_n dL_law_1070 rfl ?_
    refine v_aload_n dL_law_1071 rfl ?_
    refine v_iload dL_law_1072 rfl ?_
    refine v_iconst (iI 1) dL_law_1074 rfl ?_
    refine w_iadd dL_law_1075 ?_
    refine w_sld hSc (by decide) dL_law_1076 (i + 1) (by omega) (by omega) e1 ?_
    refine v_aload_n dL_law_1077 rfl ?_
    refine v_iload dL_law_1078 rfl ?_
    refine v_iconst (iI 2) dL_law_1080 rfl ?_
    refine w_iadd dL_law_1081 ?_
    refine w_sld hSc (by decide) dL_law_1082 (i + 2) (by omega) (by omega) e2 ?_
    refine v_aload_n dL_law_1083 rfl ?_
    refine v_iload dL_law_1084 rfl ?_
    refine v_iconst (iI 3) dL_law_1086 rfl ?_
    refine w_iadd dL_law_1087 ?_
    refine w_sld hSc (by decide) dL_law_1088 (i + 3) (by omega) (by omega) e3 ?_
    refine v_cV (av := [.int (iI p1), .int (iI p2), .int (iI p3)]) (st := []) zyX11_far lL_162 h_47 rfl (p_Mfarx (d := 10) hM r1 r2 r3 hx (by decide)) dL_law_1089 rfl rfl (Nat.le_of_ble_eq_true rfl) (by omega) (by omega) (by omega) (Or.inl (fun _ _ _ q => ZN q)) (fun r9 G2 n9 q9 => ?_)
    obtain ⟨rfl, q9n, hM, fr2⟩ := q9
    have q9n := q9n.symm
    subst q9n
    have hH := hH.fr fr2 (by decide)
    have h_90 := (fr2 90 (by decide)).trans h_90
    obtain ⟨_, _, _, _, _, _, _, _, _, _, _, _, h_47, -⟩ := id hM
    refine v_aload_n dL_law_1092 rfl ?_
    refine v_cV (av := []) (st := []) zyX11_thrown lL_111 h_47 rfl (p_thrown (d := 10) hM) dL_law_1093 rfl rfl (Nat.le_of_ble_eq_true rfl) (by omega) (by omega) (by omega) (Or.inl (fun _ _ _ q => ZN q)) (fun r9 K1 n9 q9 => ?_)
    obtain ⟨rfl, q9n, q9h⟩ := q9
    have q9n := q9n.symm
    subst q9n
    have q9h := q9h.symm
    subst q9h
    refine v_iload dL_law_1096 rfl ?_
    refine w_icmp_same 1103 dL_law_1098 (by decide) ?_
    refine v_goto 1791 dL_law_1103 (by decide) ?_
    refine w_sub (lv2 := [(0, .ref 1000), (1, .ref 0), (2, .ref 47), (3, .ref 90), (4, .int (iI (i:Nat)))]) [1, 2, 3, 4, 5] rfl ?_
    exact kont _ _ _ ⟨wd, pt, tf, Q, qn, tc, L, _, _, hH, hM, h_90, hPL, hbb, htc, hQb.mono (by omega)⟩ (by omega) (by omega)
  | true =>
    rw [Bool.and_eq_true, Bool.and_eq_true] at hx
    obtain ⟨a1, q1, h1⟩ := n_P hx.1
    subst q1
    obtain ⟨a2, q2, h2⟩ := n_P hx.2.1
    subst q2
    obtain ⟨a3, q3, h3⟩ := n_P hx.2.2
    subst q3
    refine v_aload_n dL_law_1046 rfl ?_
    refine v_aload_n dL_law_1047 rfl ?_
    refine v_iload dL_law_1048 rfl ?_
    refine v_iconst (iI 1) dL_law_1050 rfl ?_
    refine w_iadd dL_law_1051 ?_
    refine w_sld hSc (by decide) dL_law_1052 (i + 1) (by omega) (by omega) e1 ?_
    refine v_aload_n dL_law_1053 rfl ?_
    refine v_iload dL_law_1054 rfl ?_
    refine v_iconst (iI 2) dL_law_1056 rfl ?_
    refine w_iadd dL_law_1057 ?_
    refine w_sld hSc (by decide) dL_law_1058 (i + 2) (by omega) (by omega) e2 ?_
    refine v_aload_n dL_law_1059 rfl ?_
    refine v_iload dL_law_1060 rfl ?_
    refine v_iconst (iI 3) dL_law_1062 rfl ?_
    refine w_iadd dL_law_1063 ?_
    refine w_sld hSc (by decide) dL_law_1064 (i + 3) (by omega) (by omega) e3 ?_
    refine v_cSW (av := [.ref 0, .int (iI (a1:Nat)), .int (iI (a2:Nat)), .int (iI (a3:Nat))]) (st := []) hE zyL_far lL_160 (q_far hH hPL h1 h2 h3) dL_law_1065 rfl rfl (Nat.le_of_ble_eq_true rfl) (by omega) (by omega) (by omega) (Or.inl (fun _ _ _ q => ZN q)) (fun r9 G1 n9 q9 => ?_)
    obtain ⟨rfl, q9n, hH, fr1⟩ := q9
    have q9n := q9n.symm
    subst q9n
    have hM := hM.fr fr1 (by decide)
    have h_90 := (fr1 90 (by decide)).trans h_90
    obtain ⟨_, _, _, _, _, _, _, _, _, _, _, _, h_47, -⟩ := id hM
    refine v_istore (i := 5) (lv' := [(5, .int (iI 0)), (0, .ref 1000), (1, .ref 0), (2, .ref 47), (3, .ref 90), (4, .int (iI (i:Nat)))]) dL_law_1068 (by decide) rfl ?_
    refine v_aload_n dL_law_1070 rfl ?_
    refine v_aload_n dL_law_1071 rfl ?_
    refine v_iload dL_law_1072 rfl ?_
    refine v_iconst (iI 1) dL_law_1074 rfl ?_
    refine w_iadd dL_law_1075 ?_
    refine w_sld hSc (by decide) dL_law_1076 (i + 1) (by omega) (by omega) e1 ?_
    refine v_aload_n dL_law_1077 rfl ?_
    refine v_iload dL_law_1078 rfl ?_
    refine v_iconst (iI 2) dL_law_1080 rfl ?_
    refine w_iadd dL_law_1081 ?_
    refine w_sld hSc (by decide) dL_law_1082 (i + 2) (by omega) (by omega) e2 ?_
    refine v_aload_n dL_law_1083 rfl ?_
    refine v_iload dL_law_1084 rfl ?_
    refine v_iconst (iI 3) dL_law_1086 rfl ?_
    refine w_iadd dL_law_1087 ?_
    refine w_sld hSc (by decide) dL_law_1088 (i + 3) (by omega) (by omega) e3 ?_
    refine v_cV (av := [.int (iI (a1:Nat)), .int (iI (a2:Nat)), .int (iI (a3:Nat))]) (st := []) zyX11_far lL_162 h_47 rfl (p_Mfar (d := 10) hM hPL h1 h2 h3 (by decide)) dL_law_1089 rfl rfl (Nat.le_of_ble_eq_true rfl) (by omega) (by omega) (by omega) (Or.inl (fun _ _ _ q => ZN q)) (fun r9 G2 n9 q9 => ?_)
    obtain ⟨rfl, q9n, hM, fr2⟩ := q9
    have q9n := q9n.symm
    subst q9n
    have hH := hH.fr fr2 (by decide)
    have h_90 := (fr2 90 (by decide)).trans h_90
    obtain ⟨_, _, _, _, _, _, _, _, _, _, _, _, h_47, -⟩ := id hM
    refine v_aload_n dL_law_1092 rfl ?_
    refine v_cV (av := []) (st := []) zyX11_thrown lL_111 h_47 rfl (p_thrown (d := 10) hM) dL_law_1093 rfl rfl (Nat.le_of_ble_eq_true rfl) (by omega) (by omega) (by omega) (Or.inl (fun _ _ _ q => ZN q)) (fun r9 K1 n9 q9 => ?_)
    obtain ⟨rfl, q9n, q9h⟩ := q9
    have q9n := q9n.symm
    subst q9n
    have q9h := q9h.symm
    subst q9h
    refine v_iload dL_law_1096 rfl ?_
    refine w_icmp_same 1103 dL_law_1098 (by decide) ?_
    refine v_goto 1791 dL_law_1103 (by decide) ?_
    refine w_sub (lv2 := [(0, .ref 1000), (1, .ref 0), (2, .ref 47), (3, .ref 90), (4, .int (iI (i:Nat)))]) [1, 2, 3, 4, 5] rfl ?_
    exact kont _ _ _ ⟨wd, zup pt a3 (mfa wd pt a1 a2 a3), tf, Q, qn, tc, L, _, _, hH, hM, h_90, hPL.up (if_lt (hf_lt (hPL a3 h3).1) (rdR_lt (hPL a3 h3).1)), hbb, htc, hQb.mono (by omega)⟩ (by omega) (by omega)
set_option maxHeartbeats 8000000 in
set_option maxRecDepth 100000 in
theorem c_set {X : zX} {i cells slots N L9 : Nat} {sc : Nat → Int} {h : zH} (hE : zLE X) (hSc : zSc X L9 sc) (hi : i + 6 ≤ L9) (hc : cells + 2 ≤ 601024) (hs : slots + 9 ≤ 7293034) (hN : N ≤ 20000) (hI : LI h N)
    (kont : ∀ (h' : zH) (c' s' : Nat), LI h' (N + 32) → c' ≤ cells + 2 → s' ≤ slots + 9 → zV X PLW cL_law 8 RL (some .boolean) 11 601024 7293034 1791 [(0, .ref 1000), (1, .ref 0), (2, .ref 47), (3, .ref 90), (4, .int (iI (i:Nat)))] [] h' 91 c' s') :
    (zV X (PLW) cL_law 8 RL (some .boolean) 11 601024 7293034 160 [(0, .ref 1000), (1, .ref 0), (2, .ref 47), (3, .ref 90), (4, .int (iI (i:Nat)))] [] h 91 cells slots) := by
  have hL9 := hSc.l
  obtain ⟨wd, pt, tf, Q, qn, tc, L, th, g, hH, hM, h_90, hPL, hbb, htc, hQb⟩ := id hI
  obtain ⟨p1, e1⟩ : ∃ p, sc (i + 1) = p := ⟨_, rfl⟩
  have r1 := hSc.r (i + 1)
  rw [e1] at r1
  obtain ⟨p2, e2⟩ : ∃ p, sc (i + 2) = p := ⟨_, rfl⟩
  have r2 := hSc.r (i + 2)
  rw [e2] at r2
  obtain ⟨p3, e3⟩ : ∃ p, sc (i + 3) = p := ⟨_, rfl⟩
  have r3 := hSc.r (i + 3)
  rw [e3] at r3
  cases hx : isP p1 with
  | false =>
    refine v_aload_n dL_law_160 rfl ?_
    refine v_aload_n dL_law_161 rfl ?_
    refine v_iload dL_law_162 rfl ?_
    refine v_iconst (iI 1) dL_law_164 rfl ?_
    refine w_iadd dL_law_165 ?_
    refine w_sld hSc (by decide) dL_law_166 (i + 1) (by omega) (by omega) e1 ?_
    refine v_aload_n dL_law_167 rfl ?_
    refine v_iload dL_law_168 rfl ?_
    refine v_iconst (iI 2) dL_law_170 rfl ?_
    refine w_iadd dL_law_171 ?_
    refine w_sld hSc (by decide) dL_law_172 (i + 2) (by omega) (by omega) e2 ?_
    refine v_aload_n dL_law_173 rfl ?_
    refine v_iload dL_law_174 rfl ?_
    refine v_iconst (iI 3) dL_law_176 rfl ?_
    refine w_iadd dL_law_177 ?_
    refine w_sld hSc (by decide) dL_law_178 (i + 3) (by omega) (by omega) e3 ?_
    refine v_cSW (av := [.ref 0, .int (iI p1), .int (iI p2), .int (iI p3)]) (st := []) hE zyL_set lL_105 (q_setI hH r1 r2 r3 hx) dL_law_179 rfl rfl (Nat.le_of_ble_eq_true rfl) (by omega) (by omega) (by omega) (Or.inl (fun _ _ _ q => ZN q)) (fun r9 G1 n9 q9 => ?_)
    obtain ⟨rfl, q9n, hH, fr1⟩ := q9
    have q9n := q9n.symm
    subst q9n
    have hM := hM.fr fr1 (by decide)
    have h_90 := (fr1 90 (by decide)).trans h_90
    obtain ⟨_, _, _, _, _, _, _, _, _, _, _, _, h_47, -⟩ := id hM
    refine v_istore (i := 5) (lv' := [(5, .int (iI 1)), (0, .ref 1000), (1, .ref 0), (2, .ref 47), (3, .ref 90), (4, .int (iI (i:Nat)))]) dL_law_182 (by decide) rfl ?_
    refine v_aload_n dL_law_184 rfl ?_
    refine v_aload_n dL_law_185 rfl ?_
    refine v_iload dL_law_186 rfl ?_
    refine v_iconst (iI 1) dL_law_188 rfl ?_
    refine w_iadd dL_law_189 ?_
    refine w_sld hSc (by decide) dL_law_190 (i + 1) (by omega) (by omega) e1 ?_
    refine v_aload_n dL_law_191 rfl ?_
    refine v_iload dL_law_192 rfl ?_
    refine v_iconst (iI 2) dL_law_194 rfl ?_
    refine w_iadd dL_law_195 ?_
    refine w_sld hSc (by decide) dL_law_196 (i + 2) (by omega) (by omega) e2 ?_
    refine v_aload_n dL_law_197 rfl ?_
    refine v_iload dL_law_198 rfl ?_
    refine v_iconst (iI 3) dL_law_200 rfl ?_
    refine w_iadd dL_law_201 ?_
    refine w_sld hSc (by decide) dL_law_202 (i + 3) (by omega) (by omega) e3 ?_
    refine v_cV (av := [.int (iI p1), .int (iI p2), .int (iI p3)]) (st := []) zyX11_set lL_110 h_47 rfl (p_Msetx (d := 10) hM r1 r2 (by rw [hx]; rfl) (by decide)) dL_law_203 rfl rfl (Nat.le_of_ble_eq_true rfl) (by omega) (by omega) (by omega) (Or.inl (fun _ _ _ q => ZN q)) (fun r9 G2 n9 q9 => ?_)
    obtain ⟨rfl, q9n, hM, fr2⟩ := q9
    have q9n := q9n.symm
    subst q9n
    have hH := hH.fr fr2 (by decide)
    have h_90 := (fr2 90 (by decide)).trans h_90
    rw [show thr (isP p1) (isW p2) = 1 from by rw [hx]; rfl] at hM
    obtain ⟨_, _, _, _, _, _, _, _, _, _, _, _, h_47, -⟩ := id hM
    refine v_aload_n dL_law_206 rfl ?_
    refine v_cV (av := []) (st := []) zyX11_thrown lL_111 h_47 rfl (p_thrown (d := 10) hM) dL_law_207 rfl rfl (Nat.le_of_ble_eq_true rfl) (by omega) (by omega) (by omega) (Or.inl (fun _ _ _ q => ZN q)) (fun r9 K1 n9 q9 => ?_)
    obtain ⟨rfl, q9n, q9h⟩ := q9
    have q9n := q9n.symm
    subst q9n
    have q9h := q9h.symm
    subst q9h
    refine v_iload dL_law_210 rfl ?_
    refine w_icmp_same 217 dL_law_212 (by decide) ?_
    refine v_goto 1791 dL_law_217 (by decide) ?_
    refine w_sub (lv2 := [(0, .ref 1000), (1, .ref 0), (2, .ref 47), (3, .ref 90), (4, .int (iI (i:Nat)))]) [1, 2, 3, 4, 5] rfl ?_
    exact kont _ _ _ ⟨wd, pt, tf, Q, qn, tc, L, _, _, hH, hM, h_90, hPL, hbb, htc, hQb.mono (by omega)⟩ (by omega) (by omega)
  | true =>
    cases hy : isW p2 with
    | false =>
      refine v_aload_n dL_law_160 rfl ?_
      refine v_aload_n dL_law_161 rfl ?_
      refine v_iload dL_law_162 rfl ?_
      refine v_iconst (iI 1) dL_law_164 rfl ?_
      refine w_iadd dL_law_165 ?_
      refine w_sld hSc (by decide) dL_law_166 (i + 1) (by omega) (by omega) e1 ?_
      refine v_aload_n dL_law_167 rfl ?_
      refine v_iload dL_law_168 rfl ?_
      refine v_iconst (iI 2) dL_law_170 rfl ?_
      refine w_iadd dL_law_171 ?_
      refine w_sld hSc (by decide) dL_law_172 (i + 2) (by omega) (by omega) e2 ?_
      refine v_aload_n dL_law_173 rfl ?_
      refine v_iload dL_law_174 rfl ?_
      refine v_iconst (iI 3) dL_law_176 rfl ?_
      refine w_iadd dL_law_177 ?_
      refine w_sld hSc (by decide) dL_law_178 (i + 3) (by omega) (by omega) e3 ?_
      refine v_cSW (av := [.ref 0, .int (iI p1), .int (iI p2), .int (iI p3)]) (st := []) hE zyL_set lL_105 (q_setA hH r1 r2 r3 hx hy) dL_law_179 rfl rfl (Nat.le_of_ble_eq_true rfl) (by omega) (by omega) (by omega) (Or.inl (fun _ _ _ q => ZN q)) (fun r9 G1 n9 q9 => ?_)
      obtain ⟨rfl, q9n, hH, fr1⟩ := q9
      have q9n := q9n.symm
      subst q9n
      have hM := hM.fr fr1 (by decide)
      have h_90 := (fr1 90 (by decide)).trans h_90
      obtain ⟨_, _, _, _, _, _, _, _, _, _, _, _, h_47, -⟩ := id hM
      refine v_istore (i := 5) (lv' := [(5, .int (iI 2)), (0, .ref 1000), (1, .ref 0), (2, .ref 47), (3, .ref 90), (4, .int (iI (i:Nat)))]) dL_law_182 (by decide) rfl ?_
      refine v_aload_n dL_law_184 rfl ?_
      refine v_aload_n dL_law_185 rfl ?_
      refine v_iload dL_law_186 rfl ?_
      refine v_iconst (iI 1) dL_law_188 rfl ?_
      refine w_iadd dL_law_189 ?_
      refine w_sld hSc (by decide) dL_law_190 (i + 1) (by omega) (by omega) e1 ?_
      refine v_aload_n dL_law_191 rfl ?_
      refine v_iload dL_law_192 rfl ?_
      refine v_iconst (iI 2) dL_law_194 rfl ?_
      refine w_iadd dL_law_195 ?_
      refine w_sld hSc (by decide) dL_law_196 (i + 2) (by omega) (by omega) e2 ?_
      refine v_aload_n dL_law_197 rfl ?_
      refine v_iload dL_law_198 rfl ?_
      refine v_iconst (iI 3) dL_law_200 rfl ?_
      refine w_iadd dL_law_201 ?_
      refine w_sld hSc (by decide) dL_law_202 (i + 3) (by omega) (by omega) e3 ?_
      refine v_cV (av := [.int (iI p1), .int (iI p2), .int (iI p3)]) (st := []) zyX11_set lL_110 h_47 rfl (p_Msetx (d := 10) hM r1 r2 (by rw [hx, hy]; rfl) (by decide)) dL_law_203 rfl rfl (Nat.le_of_ble_eq_true rfl) (by omega) (by omega) (by omega) (Or.inl (fun _ _ _ q => ZN q)) (fun r9 G2 n9 q9 => ?_)
      obtain ⟨rfl, q9n, hM, fr2⟩ := q9
      have q9n := q9n.symm
      subst q9n
      have hH := hH.fr fr2 (by decide)
      have h_90 := (fr2 90 (by decide)).trans h_90
      rw [show thr (isP p1) (isW p2) = 2 from by rw [hx, hy]; rfl] at hM
      obtain ⟨_, _, _, _, _, _, _, _, _, _, _, _, h_47, -⟩ := id hM
      refine v_aload_n dL_law_206 rfl ?_
      refine v_cV (av := []) (st := []) zyX11_thrown lL_111 h_47 rfl (p_thrown (d := 10) hM) dL_law_207 rfl rfl (Nat.le_of_ble_eq_true rfl) (by omega) (by omega) (by omega) (Or.inl (fun _ _ _ q => ZN q)) (fun r9 K1 n9 q9 => ?_)
      obtain ⟨rfl, q9n, q9h⟩ := q9
      have q9n := q9n.symm
      subst q9n
      have q9h := q9h.symm
      subst q9h
      refine v_iload dL_law_210 rfl ?_
      refine w_icmp_same 217 dL_law_212 (by decide) ?_
      refine v_goto 1791 dL_law_217 (by decide) ?_
      refine w_sub (lv2 := [(0, .ref 1000), (1, .ref 0), (2, .ref 47), (3, .ref 90), (4, .int (iI (i:Nat)))]) [1, 2, 3, 4, 5] rfl ?_
      exact kont _ _ _ ⟨wd, pt, tf, Q, qn, tc, L, _, _, hH, hM, h_90, hPL, hbb, htc, hQb.mono (by omega)⟩ (by omega) (by omega)
    | true =>
      obtain ⟨a3, q1, h3⟩ := n_P hx
      subst q1
      obtain ⟨w, q2, hw⟩ := n_W hy
      subst q2
      refine v_aload_n dL_law_160 rfl ?_
      refine v_aload_n dL_law_161 rfl ?_
      refine v_iload dL_law_162 rfl ?_
      refine v_iconst (iI 1) dL_law_164 rfl ?_
      refine w_iadd dL_law_165 ?_
      refine w_sld hSc (by decide) dL_law_166 (i + 1) (by omega) (by omega) e1 ?_
      refine v_aload_n dL_law_167 rfl ?_
      refine v_iload dL_law_168 rfl ?_
      refine v_iconst (iI 2) dL_law_170 rfl ?_
      refine w_iadd dL_law_171 ?_
      refine w_sld hSc (by decide) dL_law_172 (i + 2) (by omega) (by omega) e2 ?_
      refine v_aload_n dL_law_173 rfl ?_
      refine v_iload dL_law_174 rfl ?_
      refine v_iconst (iI 3) dL_law_176 rfl ?_
      refine w_iadd dL_law_177 ?_
      refine w_sld hSc (by decide) dL_law_178 (i + 3) (by omega) (by omega) e3 ?_
      refine v_cSW (av := [.ref 0, .int (iI (a3:Nat)), .int (iI (w:Nat)), .int (iI p3)]) (st := []) hE zyL_set lL_105 (q_set hH h3 hw r3) dL_law_179 rfl rfl (Nat.le_of_ble_eq_true rfl) (by omega) (by omega) (by omega) (Or.inl (fun _ _ _ q => ZN q)) (fun r9 G1 n9 q9 => ?_)
      obtain ⟨rfl, q9n, hH, fr1⟩ := q9
      have q9n := q9n.symm
      subst q9n
      have hM := hM.fr fr1 (by decide)
      have h_90 := (fr1 90 (by decide)).trans h_90
      obtain ⟨_, _, _, _, _, _, _, _, _, _, _, _, h_47, -⟩ := id hM
      refine v_istore (i := 5) (lv' := [(5, .int (iI 0)), (0, .ref 1000), (1, .ref 0), (2, .ref 47), (3, .ref 90), (4, .int (iI (i:Nat)))]) dL_law_182 (by decide) rfl ?_
      refine v_aload_n dL_law_184 rfl ?_
      refine v_aload_n dL_law_185 rfl ?_
      refine v_iload dL_law_186 rfl ?_
      refine v_iconst (iI 1) dL_law_188 rfl ?_
      refine w_iadd dL_law_189 ?_
      refine w_sld hSc (by decide) dL_law_190 (i + 1) (by omega) (by omega) e1 ?_
      refine v_aload_n dL_law_191 rfl ?_
      refine v_iload dL_law_192 rfl ?_
      refine v_iconst (iI 2) dL_law_194 rfl ?_
      refine w_iadd dL_law_195 ?_
      refine w_sld hSc (by decide) dL_law_196 (i + 2) (by omega) (by omega) e2 ?_
      refine v_aload_n dL_law_197 rfl ?_
      refine v_iload dL_law_198 rfl ?_
      refine v_iconst (iI 3) dL_law_200 rfl ?_
      refine w_iadd dL_law_201 ?_
      refine w_sld hSc (by decide) dL_law_202 (i + 3) (by omega) (by omega) e3 ?_
      refine v_cV (av := [.int (iI (a3:Nat)), .int (iI (w:Nat)), .int (iI p3)]) (st := []) zyX11_set lL_110 h_47 rfl (p_Mset (d := 10) hM h3 hw r3 (by decide)) dL_law_203 rfl rfl (Nat.le_of_ble_eq_true rfl) (by omega) (by omega) (by omega) (Or.inl (fun _ _ _ q => ZN q)) (fun r9 G2 n9 q9 => ?_)
      obtain ⟨rfl, q9n, hM, fr2⟩ := q9
      have q9n := q9n.symm
      subst q9n
      have hH := hH.fr fr2 (by decide)
      have h_90 := (fr2 90 (by decide)).trans h_90
      obtain ⟨_, _, _, _, _, _, _, _, _, _, _, _, h_47, -⟩ := id hM
      refine v_aload_n dL_law_206 rfl ?_
      refine v_cV (av := []) (st := []) zyX11_thrown lL_111 h_47 rfl (p_thrown (d := 10) hM) dL_law_207 rfl rfl (Nat.le_of_ble_eq_true rfl) (by omega) (by omega) (by omega) (Or.inl (fun _ _ _ q => ZN q)) (fun r9 K1 n9 q9 => ?_)
      obtain ⟨rfl, q9n, q9h⟩ := q9
      have q9n := q9n.symm
      subst q9n
      have q9h := q9h.symm
      subst q9h
      refine v_iload dL_law_210 rfl ?_
      refine w_icmp_same 217 dL_law_212 (by decide) ?_
      refine v_goto 1791 dL_law_217 (by decide) ?_
      refine w_sub (lv2 := [(0, .ref 1000), (1, .ref 0), (2, .ref 47), (3, .ref 90), (4, .int (iI (i:Nat)))]) [1, 2, 3, 4, 5] rfl ?_
      exact kont _ _ _ ⟨zup wd a3 w, zup pt a3 (p3 % (2 ^ w : Nat)).toNat, tf, Q, qn, tc, L, _, _, hH, hM, h_90, hPL.uw hw (by have := Int.emod_lt_of_pos p3 (b := ((2 ^ w : Nat) : Int)) (by have := p_pos w; omega); have := Int.emod_nonneg p3 (b := ((2 ^ w : Nat) : Int)) (by have := p_pos w; omega); omega), hbb, htc, hQb.mono (by omega)⟩ (by omega) (by omega)
set_option maxHeartbeats 8000000 in
set_option maxRecDepth 100000 in
theorem c_pattern {X : zX} {i cells slots N L9 : Nat} {sc : Nat → Int} {h : zH} (hE : zLE X) (hSc : zSc X L9 sc) (hi : i + 6 ≤ L9) (hc : cells + 2 ≤ 601024) (hs : slots + 9 ≤ 7293034) (hN : N ≤ 20000) (hI : LI h N)
    (kont : ∀ (h' : zH) (c' s' : Nat), LI h' (N + 32) → c' ≤ cells + 2 → s' ≤ slots + 9 → zV X PLW cL_law 8 RL (some .boolean) 11 601024 7293034 1791 [(0, .ref 1000), (1, .ref 0), (2, .ref 47), (3, .ref 90), (4, .int (iI (i:Nat)))] [] h' 91 c' s') :
    (zV X (PLW) cL_law 8 RL (some .boolean) 11 601024 7293034 220 [(0, .ref 1000), (1, .ref 0), (2, .ref 47), (3, .ref 90), (4, .int (iI (i:Nat)))] [] h 91 cells slots) := by
  have hL9 := hSc.l
  obtain ⟨wd, pt, tf, Q, qn, tc, L, th, g, hH, hM, h_90, hPL, hbb, htc, hQb⟩ := id hI
  obtain ⟨p1, e1⟩ : ∃ p, sc (i + 1) = p := ⟨_, rfl⟩
  have r1 := hSc.r (i + 1)
  rw [e1] at r1
  cases hx : isP p1 with
  | false =>
    refine v_aload_n dL_law_220 rfl ?_
    refine v_aload_n dL_law_221 rfl ?_
    refine v_iload dL_law_222 rfl ?_
    refine v_iconst (iI 1) dL_law_224 rfl ?_
    refine w_iadd dL_law_225 ?_
    refine w_sld hSc (by decide) dL_law_226 (i + 1) (by omega) (by omega) e1 ?_
    refine v_aload_n dL_law_227 rfl ?_
    refine v_cSW (av := [.ref 0, .int (iI p1), .ref 90]) (st := []) hE zyL_pattern lL_115 (q_patternI hH r1 hx) dL_law_228 rfl rfl (Nat.le_of_ble_eq_true rfl) (by omega) (by omega) (by omega) (Or.inl (fun _ _ _ q => ZN q)) (fun r9 G1 n9 q9 => ?_)
    obtain ⟨rfl, q9n, hH, fr1⟩ := q9
    have q9n := q9n.symm
    subst q9n
    have hM := hM.fr fr1 (by decide)
    have h_90 := (fr1 90 (by decide)).trans h_90
    obtain ⟨_, _, _, _, _, _, _, _, _, _, _, _, h_47, -⟩ := id hM
    refine v_istore (i := 5) (lv' := [(5, .int (iI 1)), (0, .ref 1000), (1, .ref 0), (2, .ref 47), (3, .ref 90), (4, .int (iI (i:Nat)))]) dL_law_231 (by decide) rfl ?_
    refine v_aload_n dL_law_233 rfl ?_
    refine v_aload_n dL_law_234 rfl ?_
    refine v_iload dL_law_235 rfl ?_
    refine v_iconst (iI 1) dL_law_237 rfl ?_
    refine w_iadd dL_law_238 ?_
    refine w_sld hSc (by decide) dL_law_239 (i + 1) (by omega) (by omega) e1 ?_
    refine v_cV (av := [.int (iI p1)]) (st := []) zyX11_pattern lL_118 h_47 rfl (p_Mpattern (d := 10) hM r1 (by decide)) dL_law_240 rfl rfl (Nat.le_of_ble_eq_true rfl) (by omega) (by omega) (by omega) (Or.inl (fun _ _ _ q => ZN q)) (fun r9 G2 n9 q9 => ?_)
    obtain ⟨rfl, q9n, hM, fr2⟩ := q9
    have q9n := q9n.symm
    subst q9n
    have hH := hH.fr fr2 (by decide)
    have h_90 := (fr2 90 (by decide)).trans h_90
    rw [show thr (isP p1) true = 1 from by rw [hx]; rfl] at hM
    obtain ⟨_, _, _, _, _, _, _, _, _, _, _, _, h_47, -⟩ := id hM
    refine v_lstore (i := 6) (lv' := [(6, .long (jL (cond (isP p1) (pt p1.toNat) 0 : Nat))), (5, .int (iI 1)), (0, .ref 1000), (1, .ref 0), (2, .ref 47), (3, .ref 90), (4, .int (iI (i:Nat)))]) dL_law_243 (by decide) rfl ?_
    refine v_aload_n dL_law_245 rfl ?_
    refine v_cV (av := []) (st := []) zyX11_thrown lL_111 h_47 rfl (p_thrown (d := 10) hM) dL_law_246 rfl rfl (Nat.le_of_ble_eq_true rfl) (by omega) (by omega) (by omega) (Or.inl (fun _ _ _ q => ZN q)) (fun r9 K1 n9 q9 => ?_)
    obtain ⟨rfl, q9n, q9h⟩ := q9
    have q9n := q9n.symm
    subst q9n
    have q9h := q9h.symm
    subst q9h
    refine v_iload dL_law_249 rfl ?_
    refine w_icmp_same 256 dL_law_251 (by decide) ?_
    refine v_iload dL_law_256 rfl ?_
    refine w_if_ne 272 dL_law_258 (by decide) (by decide) (fun c8 => ?_) (fun c8 => ?_)
    · skip
      refine v_goto 1791 dL_law_272 (by decide) ?_
      refine w_sub (lv2 := [(0, .ref 1000), (1, .ref 0), (2, .ref 47), (3, .ref 90), (4, .int (iI (i:Nat)))]) [2, 3, 4, 5, 6] rfl ?_
      exact kont _ _ _ ⟨wd, pt, tf, Q, qn, tc, L, _, _, hH, hM, h_90, hPL, hbb, htc, hQb.mono (by omega)⟩ (by omega) (by omega)
    · exact absurd c8 (by decide)
  | true =>
    obtain ⟨a1, q1, h1⟩ := n_P hx
    subst q1
    refine v_aload_n dL_law_220 rfl ?_
    refine v_aload_n dL_law_221 rfl ?_
    refine v_iload dL_law_222 rfl ?_
    refine v_iconst (iI 1) dL_law_224 rfl ?_
    refine w_iadd dL_law_225 ?_
    refine w_sld hSc (by decide) dL_law_226 (i + 1) (by omega) (by omega) e1 ?_
    refine v_aload_n dL_law_227 rfl ?_
    refine v_cSW (av := [.ref 0, .int (iI (a1:Nat)), .ref 90]) (st := []) hE zyL_pattern lL_115 (q_pattern hH h_90 h1) dL_law_228 rfl rfl (Nat.le_of_ble_eq_true rfl) (by omega) (by omega) (by omega) (Or.inl (fun _ _ _ q => ZN q)) (fun r9 G1 n9 q9 => ?_)
    obtain ⟨rfl, q9n, hH, h_90, fr1⟩ := q9
    have q9n := q9n.symm
    subst q9n
    have hM := hM.fr fr1 (by decide)
    obtain ⟨_, _, _, _, _, _, _, _, _, _, _, _, h_47, -⟩ := id hM
    refine v_istore (i := 5) (lv' := [(5, .int (iI 0)), (0, .ref 1000), (1, .ref 0), (2, .ref 47), (3, .ref 90), (4, .int (iI (i:Nat)))]) dL_law_231 (by decide) rfl ?_
    refine v_aload_n dL_law_233 rfl ?_
    refine v_aload_n dL_law_234 rfl ?_
    refine v_iload dL_law_235 rfl ?_
    refine v_iconst (iI 1) dL_law_237 rfl ?_
    refine w_iadd dL_law_238 ?_
    refine w_sld hSc (by decide) dL_law_239 (i + 1) (by omega) (by omega) e1 ?_
    refine v_cV (av := [.int (iI (a1:Nat))]) (st := []) zyX11_pattern lL_118 h_47 rfl (p_patternV (d := 10) hM h1 (by decide)) dL_law_240 rfl rfl (Nat.le_of_ble_eq_true rfl) (by omega) (by omega) (by omega) (Or.inl (fun _ _ _ q => ZN q)) (fun r9 G2 n9 q9 => ?_)
    obtain ⟨rfl, q9n, hM, fr2⟩ := q9
    have q9n := q9n.symm
    subst q9n
    have hH := hH.fr fr2 (by decide)
    have h_90 := (fr2 90 (by decide)).trans h_90
    obtain ⟨_, _, _, _, _, _, _, _, _, _, _, _, h_47, -⟩ := id hM
    refine v_lstore (i := 6) (lv' := [(6, .long (jL (pt a1 : Nat))), (5, .int (iI 0)), (0, .ref 1000), (1, .ref 0), (2, .ref 47), (3, .ref 90), (4, .int (iI (i:Nat)))]) dL_law_243 (by decide) rfl ?_
    refine v_aload_n dL_law_245 rfl ?_
    refine v_cV (av := []) (st := []) zyX11_thrown lL_111 h_47 rfl (p_thrown (d := 10) hM) dL_law_246 rfl rfl (Nat.le_of_ble_eq_true rfl) (by omega) (by omega) (by omega) (Or.inl (fun _ _ _ q => ZN q)) (fun r9 K1 n9 q9 => ?_)
    obtain ⟨rfl, q9n, q9h⟩ := q9
    have q9n := q9n.symm
    subst q9n
    have q9h := q9h.symm
    subst q9h
    refine v_iload dL_law_249 rfl ?_
    refine w_icmp_same 256 dL_law_251 (by decide) ?_
    refine v_iload dL_law_256 rfl ?_
    refine w_if_ne 272 dL_law_258 (by decide) (by decide) (fun c8 => ?_) (fun c8 => ?_)
    · exact absurd rfl c8
    · skip
      refine v_aload_n dL_law_261 rfl ?_
      refine v_iconst (iI 0) dL_law_262 rfl ?_
      refine w_lald dL_law_263 h_90 0 rfl (by decide) (by decide) ?_
      refine w_el (pt a1 : Nat) (zup_same _ _ _) ?_
      refine v_lload dL_law_264 rfl ?_
      refine w_lcmp_same 272 dL_law_266 dL_law_267 (by decide) ?_
      refine v_goto 1791 dL_law_272 (by decide) ?_
      refine w_sub (lv2 := [(0, .ref 1000), (1, .ref 0), (2, .ref 47), (3, .ref 90), (4, .int (iI (i:Nat)))]) [2, 3, 4, 5, 6] rfl ?_
      exact kont _ _ _ ⟨wd, pt, tf, Q, qn, tc, L, _, _, hH, hM, h_90, hPL, hbb, htc, hQb.mono (by omega)⟩ (by omega) (by omega)
set_option maxHeartbeats 8000000 in
set_option maxRecDepth 100000 in
theorem c_width {X : zX} {i cells slots N L9 : Nat} {sc : Nat → Int} {h : zH} (hE : zLE X) (hSc : zSc X L9 sc) (hi : i + 6 ≤ L9) (hc : cells + 2 ≤ 601024) (hs : slots + 9 ≤ 7293034) (hN : N ≤ 20000) (hI : LI h N)
    (kont : ∀ (h' : zH) (c' s' : Nat), LI h' (N + 32) → c' ≤ cells + 2 → s' ≤ slots + 9 → zV X PLW cL_law 8 RL (some .boolean) 11 601024 7293034 1791 [(0, .ref 1000), (1, .ref 0), (2, .ref 47), (3, .ref 90), (4, .int (iI (i:Nat)))] [] h' 91 c' s') :
    (zV X (PLW) cL_law 8 RL (some .boolean) 11 601024 7293034 275 [(0, .ref 1000), (1, .ref 0), (2, .ref 47), (3, .ref 90), (4, .int (iI (i:Nat)))] [] h 91 cells slots) := by
  have hL9 := hSc.l
  obtain ⟨wd, pt, tf, Q, qn, tc, L, th, g, hH, hM, h_90, hPL, hbb, htc, hQb⟩ := id hI
  obtain ⟨p1, e1⟩ : ∃ p, sc (i + 1) = p := ⟨_, rfl⟩
  have r1 := hSc.r (i + 1)
  rw [e1] at r1
  cases hx : isP p1 with
  | false =>
    refine v_aload_n dL_law_275 rfl ?_
    refine v_aload_n dL_law_276 rfl ?_
    refine v_iload dL_law_277 rfl ?_
    refine v_iconst (iI 1) dL_law_279 rfl ?_
    refine w_iadd dL_law_280 ?_
    refine w_sld hSc (by decide) dL_law_281 (i + 1) (by omega) (by omega) e1 ?_
    refine v_aload_n dL_law_282 rfl ?_
    refine v_cSW (av := [.ref 0, .int (iI p1), .ref 90]) (st := []) hE zyL_width lL_119 (q_widthI hH r1 hx) dL_law_283 rfl rfl (Nat.le_of_ble_eq_true rfl) (by omega) (by omega) (by omega) (Or.inl (fun _ _ _ q => ZN q)) (fun r9 G1 n9 q9 => ?_)
    obtain ⟨rfl, q9n, hH, fr1⟩ := q9
    have q9n := q9n.symm
    subst q9n
    have hM := hM.fr fr1 (by decide)
    have h_90 := (fr1 90 (by decide)).trans h_90
    obtain ⟨_, _, _, _, _, _, _, _, _, _, _, _, h_47, -⟩ := id hM
    refine v_istore (i := 5) (lv' := [(5, .int (iI 1)), (0, .ref 1000), (1, .ref 0), (2, .ref 47), (3, .ref 90), (4, .int (iI (i:Nat)))]) dL_law_286 (by decide) rfl ?_
    refine v_aload_n dL_law_288 rfl ?_
    refine v_aload_n dL_law_289 rfl ?_
    refine v_iload dL_law_290 rfl ?_
    refine v_iconst (iI 1) dL_law_292 rfl ?_
    refine w_iadd dL_law_293 ?_
    refine w_sld hSc (by decide) dL_law_294 (i + 1) (by omega) (by omega) e1 ?_
    refine v_cV (av := [.int (iI p1)]) (st := []) zyX11_width lL_121 h_47 rfl (p_Mwidth (d := 10) hM r1 (by decide)) dL_law_295 rfl rfl (Nat.le_of_ble_eq_true rfl) (by omega) (by omega) (by omega) (Or.inl (fun _ _ _ q => ZN q)) (fun r9 G2 n9 q9 => ?_)
    obtain ⟨rfl, q9n, hM, fr2⟩ := q9
    have q9n := q9n.symm
    subst q9n
    have hH := hH.fr fr2 (by decide)
    have h_90 := (fr2 90 (by decide)).trans h_90
    rw [show thr (isP p1) true = 1 from by rw [hx]; rfl] at hM
    obtain ⟨_, _, _, _, _, _, _, _, _, _, _, _, h_47, -⟩ := id hM
    refine v_istore (i := 6) (lv' := [(6, .int (iI (cond (isP p1) (wd p1.toNat) 0 : Nat))), (5, .int (iI 1)), (0, .ref 1000), (1, .ref 0), (2, .ref 47), (3, .ref 90), (4, .int (iI (i:Nat)))]) dL_law_298 (by decide) rfl ?_
    refine v_aload_n dL_law_300 rfl ?_
    refine v_cV (av := []) (st := []) zyX11_thrown lL_111 h_47 rfl (p_thrown (d := 10) hM) dL_law_301 rfl rfl (Nat.le_of_ble_eq_true rfl) (by omega) (by omega) (by omega) (Or.inl (fun _ _ _ q => ZN q)) (fun r9 K1 n9 q9 => ?_)
    obtain ⟨rfl, q9n, q9h⟩ := q9
    have q9n := q9n.symm
    subst q9n
    have q9h := q9h.symm
    subst q9h
    refine v_iload dL_law_304 rfl ?_
    refine w_icmp_same 311 dL_law_306 (by decide) ?_
    refine v_iload dL_law_311 rfl ?_
    refine w_if_ne 328 dL_law_313 (by decide) (by decide) (fun c8 => ?_) (fun c8 => ?_)
    · skip
      refine v_goto 1791 dL_law_328 (by decide) ?_
      refine w_sub (lv2 := [(0, .ref 1000), (1, .ref 0), (2, .ref 47), (3, .ref 90), (4, .int (iI (i:Nat)))]) [2, 3, 4, 5, 6] rfl ?_
      exact kont _ _ _ ⟨wd, pt, tf, Q, qn, tc, L, _, _, hH, hM, h_90, hPL, hbb, htc, hQb.mono (by omega)⟩ (by omega) (by omega)
    · exact absurd c8 (by decide)
  | true =>
    obtain ⟨a1, q1, h1⟩ := n_P hx
    subst q1
    refine v_aload_n dL_law_275 rfl ?_
    refine v_aload_n dL_law_276 rfl ?_
    refine v_iload dL_law_277 rfl ?_
    refine v_iconst (iI 1) dL_law_279 rfl ?_
    refine w_iadd dL_law_280 ?_
    refine w_sld hSc (by decide) dL_law_281 (i + 1) (by omega) (by omega) e1 ?_
    refine v_aload_n dL_law_282 rfl ?_
    refine v_cSW (av := [.ref 0, .int (iI (a1:Nat)), .ref 90]) (st := []) hE zyL_width lL_119 (q_width hH h_90 h1) dL_law_283 rfl rfl (Nat.le_of_ble_eq_true rfl) (by omega) (by omega) (by omega) (Or.inl (fun _ _ _ q => ZN q)) (fun r9 G1 n9 q9 => ?_)
    obtain ⟨rfl, q9n, hH, h_90, fr1⟩ := q9
    have q9n := q9n.symm
    subst q9n
    have hM := hM.fr fr1 (by decide)
    obtain ⟨_, _, _, _, _, _, _, _, _, _, _, _, h_47, -⟩ := id hM
    refine v_istore (i := 5) (lv' := [(5, .int (iI 0)), (0, .ref 1000), (1, .ref 0), (2, .ref 47), (3, .ref 90), (4, .int (iI (i:Nat)))]) dL_law_286 (by decide) rfl ?_
    refine v_aload_n dL_law_288 rfl ?_
    refine v_aload_n dL_law_289 rfl ?_
    refine v_iload dL_law_290 rfl ?_
    refine v_iconst (iI 1) dL_law_292 rfl ?_
    refine w_iadd dL_law_293 ?_
    refine w_sld hSc (by decide) dL_law_294 (i + 1) (by omega) (by omega) e1 ?_
    refine v_cV (av := [.int (iI (a1:Nat))]) (st := []) zyX11_width lL_121 h_47 rfl (p_widthV (d := 10) hM h1 (by decide)) dL_law_295 rfl rfl (Nat.le_of_ble_eq_true rfl) (by omega) (by omega) (by omega) (Or.inl (fun _ _ _ q => ZN q)) (fun r9 G2 n9 q9 => ?_)
    obtain ⟨rfl, q9n, hM, fr2⟩ := q9
    have q9n := q9n.symm
    subst q9n
    have hH := hH.fr fr2 (by decide)
    have h_90 := (fr2 90 (by decide)).trans h_90
    obtain ⟨_, _, _, _, _, _, _, _, _, _, _, _, h_47, -⟩ := id hM
    refine v_istore (i := 6) (lv' := [(6, .int (iI (wd a1 : Nat))), (5, .int (iI 0)), (0, .ref 1000), (1, .ref 0), (2, .ref 47), (3, .ref 90), (4, .int (iI (i:Nat)))]) dL_law_298 (by decide) rfl ?_
    refine v_aload_n dL_law_300 rfl ?_
    refine v_cV (av := []) (st := []) zyX11_thrown lL_111 h_47 rfl (p_thrown (d := 10) hM) dL_law_301 rfl rfl (Nat.le_of_ble_eq_true rfl) (by omega) (by omega) (by omega) (Or.inl (fun _ _ _ q => ZN q)) (fun r9 K1 n9 q9 => ?_)
    obtain ⟨rfl, q9n, q9h⟩ := q9
    have q9n := q9n.symm
    subst q9n
    have q9h := q9h.symm
    subst q9h
    refine v_iload dL_law_304 rfl ?_
    refine w_icmp_same 311 dL_law_306 (by decide) ?_
    refine v_iload dL_law_311 rfl ?_
    refine w_if_ne 328 dL_law_313 (by decide) (by decide) (fun c8 => ?_) (fun c8 => ?_)
    · exact absurd rfl c8
    · skip
      refine v_aload_n dL_law_316 rfl ?_
      refine v_iconst (iI 0) dL_law_317 rfl ?_
      refine w_lald dL_law_318 h_90 0 rfl (by decide) (by decide) ?_
      refine w_el (s32 (wd a1 : Nat)) (zup_same _ _ _) ?_
      refine v_iload dL_law_319 rfl ?_
      refine w_topi (s32 (wd a1 : Nat)) (s32_m _) ?_
      refine w_i2l dL_law_321 (s32_r _) ?_
      refine w_lcmp_same 328 dL_law_322 dL_law_323 (by decide) ?_
      refine v_goto 1791 dL_law_328 (by decide) ?_
      refine w_sub (lv2 := [(0, .ref 1000), (1, .ref 0), (2, .ref 47), (3, .ref 90), (4, .int (iI (i:Nat)))]) [2, 3, 4, 5, 6] rfl ?_
      exact kont _ _ _ ⟨wd, pt, tf, Q, qn, tc, L, _, _, hH, hM, h_90, hPL, hbb, htc, hQb.mono (by omega)⟩ (by omega) (by omega)
set_option maxHeartbeats 8000000 in
set_option maxRecDepth 100000 in
theorem c_take {X : zX} {i cells slots N L9 : Nat} {sc : Nat → Int} {h : zH} (hE : zLE X) (hSc : zSc X L9 sc) (hi : i + 6 ≤ L9) (hc : cells + 2 ≤ 601024) (hs : slots + 9 ≤ 7293034) (hN : N ≤ 20000) (hI : LI h N)
    (kont : ∀ (h' : zH) (c' s' : Nat), LI h' (N + 32) → c' ≤ cells + 2 → s' ≤ slots + 9 → zV X PLW cL_law 8 RL (some .boolean) 11 601024 7293034 1791 [(0, .ref 1000), (1, .ref 0), (2, .ref 47), (3, .ref 90), (4, .int (iI (i:Nat)))] [] h' 91 c' s') :
    (zV X (PLW) cL_law 8 RL (some .boolean) 11 601024 7293034 331 [(0, .ref 1000), (1, .ref 0), (2, .ref 47), (3, .ref 90), (4, .int (iI (i:Nat)))] [] h 91 cells slots) := by
  have hL9 := hSc.l
  obtain ⟨wd, pt, tf, Q, qn, tc, L, th, g, hH, hM, h_90, hPL, hbb, htc, hQb⟩ := id hI
  obtain ⟨p1, e1⟩ : ∃ p, sc (i + 1) = p := ⟨_, rfl⟩
  have r1 := hSc.r (i + 1)
  rw [e1] at r1
  obtain ⟨p2, e2⟩ : ∃ p, sc (i + 2) = p := ⟨_, rfl⟩
  have r2 := hSc.r (i + 2)
  rw [e2] at r2
  obtain ⟨p3, e3⟩ : ∃ p, sc (i + 3) = p := ⟨_, rfl⟩
  have r3 := hSc.r (i + 3)
  rw [e3] at r3
  cases hx : (isP p1 && isP p2) with
  | false =>
    refine v_aload_n dL_law_331 rfl ?_
    refine v_aload_n dL_law_332 rfl ?_
    refine v_iload dL_law_333 rfl ?_
    refine v_iconst (iI 1) dL_law_335 rfl ?_
    refine w_iadd dL_law_336 ?_
    refine w_sld hSc (by decide) dL_law_337 (i + 1) (by omega) (by omega) e1 ?_
    refine v_aload_n dL_law_338 rfl ?_
    refine v_iload dL_law_339 rfl ?_
    refine v_iconst (iI 2) dL_law_341 rfl ?_
    refine w_iadd dL_law_342 ?_
    refine w_sld hSc (by decide) dL_law_343 (i + 2) (by omega) (by omega) e2 ?_
    refine v_aload_n dL_law_344 rfl ?_
    refine v_iload dL_law_345 rfl ?_
    refine v_iconst (iI 3) dL_law_347 rfl ?_
    refine w_iadd dL_law_348 ?_
    refine w_sld hSc (by decide) dL_law_349 (i + 3) (by omega) (by omega) e3 ?_
    refine v_cSW (av := [.ref 0, .int (iI p1), .int (iI p2), .int (iI p3)]) (st := []) hE zyL_take lL_122 (q_takeI hH r1 r2 r3 hx) dL_law_350 rfl rfl (Nat.le_of_ble_eq_true rfl) (by omega) (by omega) (by omega) (Or.inl (fun _ _ _ q => ZN q)) (fun r9 G1 n9 q9 => ?_)
    obtain ⟨rfl, q9n, hH, fr1⟩ := q9
    have q9n := q9n.symm
    subst q9n
    have hM := hM.fr fr1 (by decide)
    have h_90 := (fr1 90 (by decide)).trans h_90
    obtain ⟨_, _, _, _, _, _, _, _, _, _, _, _, h_47, -⟩ := id hM
    refine v_istore (i := 5) (lv' := [(5, .int (iI 1)), (0, .ref 1000), (1, .ref 0), (2, .ref 47), (3, .ref 90), (4, .int (iI (i:Nat)))]) dL_law_353 (by decide) rfl ?_
    refine v_aload_n dL_law_355 rfl ?_
    refine v_aload_n dL_law_356 rfl ?_
    refine v_iload dL_law_357 rfl ?_
    refine v_iconst (iI 1) dL_law_359 rfl ?_
    refine w_iadd dL_law_360 ?_
    refine w_sld hSc (by decide) dL_law_361 (i + 1) (by omega) (by omega) e1 ?_
    refine v_aload_n dL_law_362 rfl ?_
    refine v_iload dL_law_363 rfl ?_
    refine v_iconst (iI 2) dL_law_365 rfl ?_
    refine w_iadd dL_law_366 ?_
    refine w_sld hSc (by decide) dL_law_367 (i + 2) (by omega) (by omega) e2 ?_
    refine v_aload_n dL_law_368 rfl ?_
    refine v_iload dL_law_369 rfl ?_
    refine v_iconst (iI 3) dL_law_371 rfl ?_
    refine w_iadd dL_law_372 ?_
    refine w_sld hSc (by decide) dL_law_373 (i + 3) (by omega) (by omega) e3 ?_
    refine v_cV (av := [.int (iI p1), .int (iI p2), .int (iI p3)]) (st := []) zyX11_take lL_124 h_47 rfl (p_Mtakex (d := 10) hM r1 r2 r3 (by rw [hx]; rfl) (by decide)) dL_law_374 rfl rfl (Nat.le_of_ble_eq_true rfl) (by omega) (by omega) (by omega) (Or.inl (fun _ _ _ q => ZN q)) (fun r9 G2 n9 q9 => ?_)
    obtain ⟨rfl, q9n, hM, fr2⟩ := q9
    have q9n := q9n.symm
    subst q9n
    have hH := hH.fr fr2 (by decide)
    have h_90 := (fr2 90 (by decide)).trans h_90
    rw [show thr (isP p1 && isP p2) (isW p3) = 1 from by rw [hx]; rfl] at hM
    obtain ⟨_, _, _, _, _, _, _, _, _, _, _, _, h_47, -⟩ := id hM
    refine v_aload_n dL_law_377 rfl ?_
    refine v_cV (av := []) (st := []) zyX11_thrown lL_111 h_47 rfl (p_thrown (d := 10) hM) dL_law_378 rfl rfl (Nat.le_of_ble_eq_true rfl) (by omega) (by omega) (by omega) (Or.inl (fun _ _ _ q => ZN q)) (fun r9 K1 n9 q9 => ?_)
    obtain ⟨rfl, q9n, q9h⟩ := q9
    have q9n := q9n.symm
    subst q9n
    have q9h := q9h.symm
    subst q9h
    refine v_iload dL_law_381 rfl ?_
    refine w_icmp_same 388 dL_law_383 (by decide) ?_
    refine v_goto 1791 dL_law_388 (by decide) ?_
    refine w_sub (lv2 := [(0, .ref 1000), (1, .ref 0), (2, .ref 47), (3, .ref 90), (4, .int (iI (i:Nat)))]) [1, 2, 3, 4, 5] rfl ?_
    exact kont _ _ _ ⟨wd, pt, tf, Q, qn, tc, L, _, _, hH, hM, h_90, hPL, hbb, htc, hQb.mono (by omega)⟩ (by omega) (by omega)
  | true =>
    cases hy : isW p3 with
    | false =>
      have hx2 := hx
      rw [Bool.and_eq_true] at hx2
      refine v_aload_n dL_law_331 rfl ?_
      refine v_aload_n dL_law_332 rfl ?_
      refine v_iload dL_law_333 rfl ?_
      refine v_iconst (iI 1) dL_law_335 rfl ?_
      refine w_iadd dL_law_336 ?_
      refine w_sld hSc (by decide) dL_law_337 (i + 1) (by omega) (by omega) e1 ?_
      refine v_aload_n dL_law_338 rfl ?_
      refine v_iload dL_law_339 rfl ?_
      refine v_iconst (iI 2) dL_law_341 rfl ?_
      refine w_iadd dL_law_342 ?_
      refine w_sld hSc (by decide) dL_law_343 (i + 2) (by omega) (by omega) e2 ?_
      refine v_aload_n dL_law_344 rfl ?_
      refine v_iload dL_law_345 rfl ?_
      refine v_iconst (iI 3) dL_law_347 rfl ?_
      refine w_iadd dL_law_348 ?_
      refine w_sld hSc (by decide) dL_law_349 (i + 3) (by omega) (by omega) e3 ?_
      refine v_cSW (av := [.ref 0, .int (iI p1), .int (iI p2), .int (iI p3)]) (st := []) hE zyL_take lL_122 (q_takeA hH r1 r2 r3 hx2.1 hx2.2 hy) dL_law_350 rfl rfl (Nat.le_of_ble_eq_true rfl) (by omega) (by omega) (by omega) (Or.inl (fun _ _ _ q => ZN q)) (fun r9 G1 n9 q9 => ?_)
      obtain ⟨rfl, q9n, hH, fr1⟩ := q9
      have q9n := q9n.symm
      subst q9n
      have hM := hM.fr fr1 (by decide)
      have h_90 := (fr1 90 (by decide)).trans h_90
      obtain ⟨_, _, _, _, _, _, _, _, _, _, _, _, h_47, -⟩ := id hM
      refine v_istore (i := 5) (lv' := [(5, .int (iI 2)), (0, .ref 1000), (1, .ref 0), (2, .ref 47), (3, .ref 90), (4, .int (iI (i:Nat)))]) dL_law_353 (by decide) rfl ?_
      refine v_aload_n dL_law_355 rfl ?_
      refine v_aload_n dL_law_356 rfl ?_
      refine v_iload dL_law_357 rfl ?_
      refine v_iconst (iI 1) dL_law_359 rfl ?_
      refine w_iadd dL_law_360 ?_
      refine w_sld hSc (by decide) dL_law_361 (i + 1) (by omega) (by omega) e1 ?_
      refine v_aload_n dL_law_362 rfl ?_
      refine v_iload dL_law_363 rfl ?_
      refine v_iconst (iI 2) dL_law_365 rfl ?_
      refine w_iadd dL_law_366 ?_
      refine w_sld hSc (by decide) dL_law_367 (i + 2) (by omega) (by omega) e2 ?_
      refine v_aload_n dL_law_368 rfl ?_
      refine v_iload dL_law_369 rfl ?_
      refine v_iconst (iI 3) dL_law_371 rfl ?_
      refine w_iadd dL_law_372 ?_
      refine w_sld hSc (by decide) dL_law_373 (i + 3) (by omega) (by omega) e3 ?_
      refine v_cV (av := [.int (iI p1), .int (iI p2), .int (iI p3)]) (st := []) zyX11_take lL_124 h_47 rfl (p_Mtakex (d := 10) hM r1 r2 r3 (by rw [hx, hy]; rfl) (by decide)) dL_law_374 rfl rfl (Nat.le_of_ble_eq_true rfl) (by omega) (by omega) (by omega) (Or.inl (fun _ _ _ q => ZN q)) (fun r9 G2 n9 q9 => ?_)
      obtain ⟨rfl, q9n, hM, fr2⟩ := q9
      have q9n := q9n.symm
      subst q9n
      have hH := hH.fr fr2 (by decide)
      have h_90 := (fr2 90 (by decide)).trans h_90
      rw [show thr (isP p1 && isP p2) (isW p3) = 2 from by rw [hx, hy]; rfl] at hM
      obtain ⟨_, _, _, _, _, _, _, _, _, _, _, _, h_47, -⟩ := id hM
      refine v_aload_n dL_law_377 rfl ?_
      refine v_cV (av := []) (st := []) zyX11_thrown lL_111 h_47 rfl (p_thrown (d := 10) hM) dL_law_378 rfl rfl (Nat.le_of_ble_eq_true rfl) (by omega) (by omega) (by omega) (Or.inl (fun _ _ _ q => ZN q)) (fun r9 K1 n9 q9 => ?_)
      obtain ⟨rfl, q9n, q9h⟩ := q9
      have q9n := q9n.symm
      subst q9n
      have q9h := q9h.symm
      subst q9h
      refine v_iload dL_law_381 rfl ?_
      refine w_icmp_same 388 dL_law_383 (by decide) ?_
      refine v_goto 1791 dL_law_388 (by decide) ?_
      refine w_sub (lv2 := [(0, .ref 1000), (1, .ref 0), (2, .ref 47), (3, .ref 90), (4, .int (iI (i:Nat)))]) [1, 2, 3, 4, 5] rfl ?_
      exact kont _ _ _ ⟨wd, pt, tf, Q, qn, tc, L, _, _, hH, hM, h_90, hPL, hbb, htc, hQb.mono (by omega)⟩ (by omega) (by omega)
    | true =>
      rw [Bool.and_eq_true] at hx
      obtain ⟨a1, q1, h1⟩ := n_P hx.1
      subst q1
      obtain ⟨a3, q2, h3⟩ := n_P hx.2
      subst q2
      obtain ⟨w, q3, hw⟩ := n_W hy
      subst q3
      refine v_aload_n dL_law_331 rfl ?_
      refine v_aload_n dL_law_332 rfl ?_
      refine v_iload dL_law_333 rfl ?_
      refine v_iconst (iI 1) dL_law_335 rfl ?_
      refine w_iadd dL_law_336 ?_
      refine w_sld hSc (by decide) dL_law_337 (i + 1) (by omega) (by omega) e1 ?_
      refine v_aload_n dL_law_338 rfl ?_
      refine v_iload dL_law_339 rfl ?_
      refine v_iconst (iI 2) dL_law_341 rfl ?_
      refine w_iadd dL_law_342 ?_
      refine w_sld hSc (by decide) dL_law_343 (i + 2) (by omega) (by omega) e2 ?_
      refine v_aload_n dL_law_344 rfl ?_
      refine v_iload dL_law_345 rfl ?_
      refine v_iconst (iI 3) dL_law_347 rfl ?_
      refine w_iadd dL_law_348 ?_
      refine w_sld hSc (by decide) dL_law_349 (i + 3) (by omega) (by omega) e3 ?_
      refine v_cSW (av := [.ref 0, .int (iI (a1:Nat)), .int (iI (a3:Nat)), .int (iI (w:Nat))]) (st := []) hE zyL_take lL_122 (q_take hH hPL h1 h3 hw) dL_law_350 rfl rfl (Nat.le_of_ble_eq_true rfl) (by omega) (by omega) (by omega) (Or.inl (fun _ _ _ q => ZN q)) (fun r9 G1 n9 q9 => ?_)
      obtain ⟨rfl, q9n, hH, fr1⟩ := q9
      have q9n := q9n.symm
      subst q9n
      have hM := hM.fr fr1 (by decide)
      have h_90 := (fr1 90 (by decide)).trans h_90
      obtain ⟨_, _, _, _, _, _, _, _, _, _, _, _, h_47, -⟩ := id hM
      refine v_istore (i := 5) (lv' := [(5, .int (iI 0)), (0, .ref 1000), (1, .ref 0), (2, .ref 47), (3, .ref 90), (4, .int (iI (i:Nat)))]) dL_law_353 (by decide) rfl ?_
      refine v_aload_n dL_law_355 rfl ?_
      refine v_aload_n dL_law_356 rfl ?_
      refine v_iload dL_law_357 rfl ?_
      refine v_iconst (iI 1) dL_law_359 rfl ?_
      refine w_iadd dL_law_360 ?_
      refine w_sld hSc (by decide) dL_law_361 (i + 1) (by omega) (by omega) e1 ?_
      refine v_aload_n dL_law_362 rfl ?_
      refine v_iload dL_law_363 rfl ?_
      refine v_iconst (iI 2) dL_law_365 rfl ?_
      refine w_iadd dL_law_366 ?_
      refine w_sld hSc (by decide) dL_law_367 (i + 2) (by omega) (by omega) e2 ?_
      refine v_aload_n dL_law_368 rfl ?_
      refine v_iload dL_law_369 rfl ?_
      refine v_iconst (iI 3) dL_law_371 rfl ?_
      refine w_iadd dL_law_372 ?_
      refine w_sld hSc (by decide) dL_law_373 (i + 3) (by omega) (by omega) e3 ?_
      refine v_cV (av := [.int (iI (a1:Nat)), .int (iI (a3:Nat)), .int (iI (w:Nat))]) (st := []) zyX11_take lL_124 h_47 rfl (p_Mtake (d := 10) hM hPL h1 h3 hw (by decide)) dL_law_374 rfl rfl (Nat.le_of_ble_eq_true rfl) (by omega) (by omega) (by omega) (Or.inl (fun _ _ _ q => ZN q)) (fun r9 G2 n9 q9 => ?_)
      obtain ⟨rfl, q9n, hM, fr2⟩ := q9
      have q9n := q9n.symm
      subst q9n
      have hH := hH.fr fr2 (by decide)
      have h_90 := (fr2 90 (by decide)).trans h_90
      obtain ⟨_, _, _, _, _, _, _, _, _, _, _, _, h_47, -⟩ := id hM
      refine v_aload_n dL_law_377 rfl ?_
      refine v_cV (av := []) (st := []) zyX11_thrown lL_111 h_47 rfl (p_thrown (d := 10) hM) dL_law_378 rfl rfl (Nat.le_of_ble_eq_true rfl) (by omega) (by omega) (by omega) (Or.inl (fun _ _ _ q => ZN q)) (fun r9 K1 n9 q9 => ?_)
      obtain ⟨rfl, q9n, q9h⟩ := q9
      have q9n := q9n.symm
      subst q9n
      have q9h := q9h.symm
      subst q9h
      refine v_iload dL_law_381 rfl ?_
      refine w_icmp_same 388 dL_law_383 (by decide) ?_
      refine v_goto 1791 dL_law_388 (by decide) ?_
      refine w_sub (lv2 := [(0, .ref 1000), (1, .ref 0), (2, .ref 47), (3, .ref 90), (4, .int (iI (i:Nat)))]) [1, 2, 3, 4, 5] rfl ?_
      exact kont _ _ _ ⟨zup wd a3 w, zup pt a3 (mtk wd pt a1 w), tf, Q, qn, tc, L, _, _, hH, hM, h_90, hPL.uw hw (if_lt (hf_lt hw.1) (rdR_lt hw.1)), hbb, htc, hQb.mono (by omega)⟩ (by omega) (by omega)
set_option maxHeartbeats 8000000 in
set_option maxRecDepth 100000 in
theorem c_ratio {X : zX} {i cells slots N L9 : Nat} {sc : Nat → Int} {h : zH} (hE : zLE X) (hSc : zSc X L9 sc) (hi : i + 6 ≤ L9) (hc : cells + 2 ≤ 601024) (hs : slots + 9 ≤ 7293034) (hN : N ≤ 20000) (hI : LI h N)
    (kont : ∀ (h' : zH) (c' s' : Nat), LI h' (N + 32) → c' ≤ cells + 2 → s' ≤ slots + 9 → zV X PLW cL_law 8 RL (some .boolean) 11 601024 7293034 1791 [(0, .ref 1000), (1, .ref 0), (2, .ref 47), (3, .ref 90), (4, .int (iI (i:Nat)))] [] h' 91 c' s') :
    (zV X (PLW) cL_law 8 RL (some .boolean) 11 601024 7293034 391 [(0, .ref 1000), (1, .ref 0), (2, .ref 47), (3, .ref 90), (4, .int (iI (i:Nat)))] [] h 91 cells slots) := by
  have hL9 := hSc.l
  obtain ⟨wd, pt, tf, Q, qn, tc, L, th, g, hH, hM, h_90, hPL, hbb, htc, hQb⟩ := id hI
  obtain ⟨p1, e1⟩ : ∃ p, sc (i + 1) = p := ⟨_, rfl⟩
  have r1 := hSc.r (i + 1)
  rw [e1] at r1
  obtain ⟨p2, e2⟩ : ∃ p, sc (i + 2) = p := ⟨_, rfl⟩
  have r2 := hSc.r (i + 2)
  rw [e2] at r2
  obtain ⟨p3, e3⟩ : ∃ p, sc (i + 3) = p := ⟨_, rfl⟩
  have r3 := hSc.r (i + 3)
  rw [e3] at r3
  obtain ⟨p4, e4⟩ : ∃ p, sc (i + 4) = p := ⟨_, rfl⟩
  have r4 := hSc.r (i + 4)
  rw [e4] at r4
  obtain ⟨p5, e5⟩ : ∃ p, sc (i + 5) = p := ⟨_, rfl⟩
  have r5 := hSc.r (i + 5)
  rw [e5] at r5
  cases hx : isP p1 with
  | false =>
    refine v_aload_n dL_law_391 rfl ?_
    refine v_aload_n dL_law_392 rfl ?_
    refine v_iload dL_law_393 rfl ?_
    refine v_iconst (iI 1) dL_law_395 rfl ?_
    refine w_iadd dL_law_396 ?_
    refine w_sld hSc (by decide) dL_law_397 (i + 1) (by omega) (by omega) e1 ?_
    refine v_aload_n dL_law_398 rfl ?_
    refine v_iload dL_law_399 rfl ?_
    refine v_iconst (iI 2) dL_law_401 rfl ?_
    refine w_iadd dL_law_402 ?_
    refine w_sld hSc (by decide) dL_law_403 (i + 2) (by omega) (by omega) e2 ?_
    refine w_i2l dL_law_404 (by omega) ?_
    refine v_bipush (iI 32) dL_law_405 rfl ?_
    refine w_lshl dL_law_407 32 4294967296 rfl rfl (by decide) ?_
    refine v_aload_n dL_law_408 rfl ?_
    refine v_iload dL_law_409 rfl ?_
    refine v_iconst (iI 3) dL_law_411 rfl ?_
    refine w_iadd dL_law_412 ?_
    refine w_sld hSc (by decide) dL_law_413 (i + 3) (by omega) (by omega) e3 ?_
    refine w_low dL_law_414 kL_125 dL_law_415 dL_law_418 ?_
    refine w_lor dL_law_419 32 4294967296 rfl (by decide) (by omega) (by omega) ?_
    refine v_aload_n dL_law_420 rfl ?_
    refine v_iload dL_law_421 rfl ?_
    refine v_iconst (iI 4) dL_law_423 rfl ?_
    refine w_iadd dL_law_424 ?_
    refine w_sld hSc (by decide) dL_law_425 (i + 4) (by omega) (by omega) e4 ?_
    refine w_i2l dL_law_426 (by omega) ?_
    refine v_bipush (iI 32) dL_law_427 rfl ?_
    refine w_lshl dL_law_429 32 4294967296 rfl rfl (by decide) ?_
    refine v_aload_n dL_law_430 rfl ?_
    refine v_iload dL_law_431 rfl ?_
    refine v_iconst (iI 5) dL_law_433 rfl ?_
    refine w_iadd dL_law_434 ?_
    refine w_sld hSc (by decide) dL_law_435 (i + 5) (by omega) (by omega) e5 ?_
    refine w_low dL_law_436 kL_125 dL_law_437 dL_law_440 ?_
    refine w_lor dL_law_441 32 4294967296 rfl (by decide) (by omega) (by omega) ?_
    refine v_cSW (av := [.ref 0, .int (iI p1), .long (jL ((p2 * 4294967296) + (p3 % 4294967296))), .long (jL ((p4 * 4294967296) + (p5 % 4294967296)))]) (st := []) hE zyL_ratio lL_127 (q_ratioI hH r1 hx) dL_law_442 rfl rfl (Nat.le_of_ble_eq_true rfl) (by omega) (by omega) (by omega) (Or.inl (fun _ _ _ q => ZN q)) (fun r9 G1 n9 q9 => ?_)
    obtain ⟨rfl, q9n, hH, fr1⟩ := q9
    have q9n := q9n.symm
    subst q9n
    have hM := hM.fr fr1 (by decide)
    have h_90 := (fr1 90 (by decide)).trans h_90
    obtain ⟨_, _, _, _, _, _, _, _, _, _, _, _, h_47, -⟩ := id hM
    refine v_istore (i := 5) (lv' := [(5, .int (iI 1)), (0, .ref 1000), (1, .ref 0), (2, .ref 47), (3, .ref 90), (4, .int (iI (i:Nat)))]) dL_law_445 (by decide) rfl ?_
    refine v_aload_n dL_law_447 rfl ?_
    refine v_aload_n dL_law_448 rfl ?_
    refine v_iload dL_law_449 rfl ?_
    refine v_iconst (iI 1) dL_law_451 rfl ?_
    refine w_iadd dL_law_452 ?_
    refine w_sld hSc (by decide) dL_law_453 (i + 1) (by omega) (by omega) e1 ?_
    refine v_aload_n dL_law_454 rfl ?_
    refine v_iload dL_law_455 rfl ?_
    refine v_iconst (iI 2) dL_law_457 rfl ?_
    refine w_iadd dL_law_458 ?_
    refine w_sld hSc (by decide) dL_law_459 (i + 2) (by omega) (by omega) e2 ?_
    refine w_i2l dL_law_460 (by omega) ?_
    refine v_bipush (iI 32) dL_law_461 rfl ?_
    refine w_lshl dL_law_463 32 4294967296 rfl rfl (by decide) ?_
    refine v_aload_n dL_law_464 rfl ?_
    refine v_iload dL_law_465 rfl ?_
    refine v_iconst (iI 3) dL_law_467 rfl ?_
    refine w_iadd dL_law_468 ?_
    refine w_sld hSc (by decide) dL_law_469 (i + 3) (by omega) (by omega) e3 ?_
    refine w_low dL_law_470 kL_125 dL_law_471 dL_law_474 ?_
    refine w_lor dL_law_475 32 4294967296 rfl (by decide) (by omega) (by omega) ?_
    refine v_aload_n dL_law_476 rfl ?_
    refine v_iload dL_law_477 rfl ?_
    refine v_iconst (iI 4) dL_law_479 rfl ?_
    refine w_iadd dL_law_480 ?_
    refine w_sld hSc (by decide) dL_law_481 (i + 4) (by omega) (by omega) e4 ?_
    refine w_i2l dL_law_482 (by omega) ?_
    refine v_bipush (iI 32) dL_law_483 rfl ?_
    refine w_lshl dL_law_485 32 4294967296 rfl rfl (by decide) ?_
    refine v_aload_n dL_law_486 rfl ?_
    refine v_iload dL_law_487 rfl ?_
    refine v_iconst (iI 5) dL_law_489 rfl ?_
    refine w_iadd dL_law_490 ?_
    refine w_sld hSc (by decide) dL_law_491 (i + 5) (by omega) (by omega) e5 ?_
    refine w_low dL_law_492 kL_125 dL_law_493 dL_law_496 ?_
    refine w_lor dL_law_497 32 4294967296 rfl (by decide) (by omega) (by omega) ?_
    refine v_cV (av := [.int (iI p1), .long (jL ((p2 * 4294967296) + (p3 % 4294967296))), .long (jL ((p4 * 4294967296) + (p5 % 4294967296)))]) (st := []) zyX11_ratio lL_130 h_47 rfl (p_Mratiox (d := 10) hM r1 hx (by decide)) dL_law_498 rfl rfl (Nat.le_of_ble_eq_true rfl) (by omega) (by omega) (by omega) (Or.inl (fun _ _ _ q => ZN q)) (fun r9 G2 n9 q9 => ?_)
    obtain ⟨rfl, q9n, hM, fr2⟩ := q9
    have q9n := q9n.symm
    subst q9n
    have hH := hH.fr fr2 (by decide)
    have h_90 := (fr2 90 (by decide)).trans h_90
    obtain ⟨_, _, _, _, _, _, _, _, _, _, _, _, h_47, -⟩ := id hM
    refine v_aload_n dL_law_501 rfl ?_
    refine v_cV (av := []) (st := []) zyX11_thrown lL_111 h_47 rfl (p_thrown (d := 10) hM) dL_law_502 rfl rfl (Nat.le_of_ble_eq_true rfl) (by omega) (by omega) (by omega) (Or.inl (fun _ _ _ q => ZN q)) (fun r9 K1 n9 q9 => ?_)
    obtain ⟨rfl, q9n, q9h⟩ := q9
    have q9n := q9n.symm
    subst q9n
    have q9h := q9h.symm
    subst q9h
    refine v_iload dL_law_505 rfl ?_
    refine w_icmp_same 512 dL_law_507 (by decide) ?_
    refine v_goto 1791 dL_law_512 (by decide) ?_
    refine w_sub (lv2 := [(0, .ref 1000), (1, .ref 0), (2, .ref 47), (3, .ref 90), (4, .int (iI (i:Nat)))]) [1, 2, 3, 4, 5] rfl ?_
    exact kont _ _ _ ⟨wd, pt, tf, Q, qn, tc, L, _, _, hH, hM, h_90, hPL, hbb, htc, hQb.mono (by omega)⟩ (by omega) (by omega)
  | true =>
    obtain ⟨a3, q1, h3⟩ := n_P hx
    subst q1
    refine v_aload_n dL_law_391 rfl ?_
    refine v_aload_n dL_law_392 rfl ?_
    refine v_iload dL_law_393 rfl ?_
    refine v_iconst (iI 1) dL_law_395 rfl ?_
    refine w_iadd dL_law_396 ?_
    refine w_sld hSc (by decide) dL_law_397 (i + 1) (by omega) (by omega) e1 ?_
    refine v_aload_n dL_law_398 rfl ?_
    refine v_iload dL_law_399 rfl ?_
    refine v_iconst (iI 2) dL_law_401 rfl ?_
    refine w_iadd dL_law_402 ?_
    refine w_sld hSc (by decide) dL_law_403 (i + 2) (by omega) (by omega) e2 ?_
    refine w_i2l dL_law_404 (by omega) ?_
    refine v_bipush (iI 32) dL_law_405 rfl ?_
    refine w_lshl dL_law_407 32 4294967296 rfl rfl (by decide) ?_
    refine v_aload_n dL_law_408 rfl ?_
    refine v_iload dL_law_409 rfl ?_
    refine v_iconst (iI 3) dL_law_411 rfl ?_
    refine w_iadd dL_law_412 ?_
    refine w_sld hSc (by decide) dL_law_413 (i + 3) (by omega) (by omega) e3 ?_
    refine w_low dL_law_414 kL_125 dL_law_415 dL_law_418 ?_
    refine w_lor dL_law_419 32 4294967296 rfl (by decide) (by omega) (by omega) ?_
    refine v_aload_n dL_law_420 rfl ?_
    refine v_iload dL_law_421 rfl ?_
    refine v_iconst (iI 4) dL_law_423 rfl ?_
    refine w_iadd dL_law_424 ?_
    refine w_sld hSc (by decide) dL_law_425 (i + 4) (by omega) (by omega) e4 ?_
    refine w_i2l dL_law_426 (by omega) ?_
    refine v_bipush (iI 32) dL_law_427 rfl ?_
    refine w_lshl dL_law_429 32 4294967296 rfl rfl (by decide) ?_
    refine v_aload_n dL_law_430 rfl ?_
    refine v_iload dL_law_431 rfl ?_
    refine v_iconst (iI 5) dL_law_433 rfl ?_
    refine w_iadd dL_law_434 ?_
    refine w_sld hSc (by decide) dL_law_435 (i + 5) (by omega) (by omega) e5 ?_
    refine w_low dL_law_436 kL_125 dL_law_437 dL_law_440 ?_
    refine w_lor dL_law_441 32 4294967296 rfl (by decide) (by omega) (by omega) ?_
    refine v_cSW (av := [.ref 0, .int (iI (a3:Nat)), .long (jL ((p2 * 4294967296) + (p3 % 4294967296))), .long (jL ((p4 * 4294967296) + (p5 % 4294967296)))]) (st := []) hE zyL_ratio lL_127 (q_ratio hH hPL h3 (by omega) (by omega)) dL_law_442 rfl rfl (Nat.le_of_ble_eq_true rfl) (by omega) (by omega) (by omega) (Or.inl (fun _ _ _ q => ZN q)) (fun r9 G1 n9 q9 => ?_)
    obtain ⟨rfl, q9n, hH, fr1⟩ := q9
    have q9n := q9n.symm
    subst q9n
    have hM := hM.fr fr1 (by decide)
    have h_90 := (fr1 90 (by decide)).trans h_90
    obtain ⟨_, _, _, _, _, _, _, _, _, _, _, _, h_47, -⟩ := id hM
    refine v_istore (i := 5) (lv' := [(5, .int (iI 0)), (0, .ref 1000), (1, .ref 0), (2, .ref 47), (3, .ref 90), (4, .int (iI (i:Nat)))]) dL_law_445 (by decide) rfl ?_
    refine v_aload_n dL_law_447 rfl ?_
    refine v_aload_n dL_law_448 rfl ?_
    refine v_iload dL_law_449 rfl ?_
    refine v_iconst (iI 1) dL_law_451 rfl ?_
    refine w_iadd dL_law_452 ?_
    refine w_sld hSc (by decide) dL_law_453 (i + 1) (by omega) (by omega) e1 ?_
    refine v_aload_n dL_law_454 rfl ?_
    refine v_iload dL_law_455 rfl ?_
    refine v_iconst (iI 2) dL_law_457 rfl ?_
    refine w_iadd dL_law_458 ?_
    refine w_sld hSc (by decide) dL_law_459 (i + 2) (by omega) (by omega) e2 ?_
    refine w_i2l dL_law_460 (by omega) ?_
    refine v_bipush (iI 32) dL_law_461 rfl ?_
    refine w_lshl dL_law_463 32 4294967296 rfl rfl (by decide) ?_
    refine v_aload_n dL_law_464 rfl ?_
    refine v_iload dL_law_465 rfl ?_
    refine v_iconst (iI 3) dL_law_467 rfl ?_
    refine w_iadd dL_law_468 ?_
    refine w_sld hSc (by decide) dL_law_469 (i + 3) (by omega) (by omega) e3 ?_
    refine w_low dL_law_470 kL_125 dL_law_471 dL_law_474 ?_
    refine w_lor dL_law_475 32 4294967296 rfl (by decide) (by omega) (by omega) ?_
    refine v_aload_n dL_law_476 rfl ?_
    refine v_iload dL_law_477 rfl ?_
    refine v_iconst (iI 4) dL_law_479 rfl ?_
    refine w_iadd dL_law_480 ?_
    refine w_sld hSc (by decide) dL_law_481 (i + 4) (by omega) (by omega) e4 ?_
    refine w_i2l dL_law_482 (by omega) ?_
    refine v_bipush (iI 32) dL_law_483 rfl ?_
    refine w_lshl dL_law_485 32 4294967296 rfl rfl (by decide) ?_
    refine v_aload_n dL_law_486 rfl ?_
    refine v_iload dL_law_487 rfl ?_
    refine v_iconst (iI 5) dL_law_489 rfl ?_
    refine w_iadd dL_law_490 ?_
    refine w_sld hSc (by decide) dL_law_491 (i + 5) (by omega) (by omega) e5 ?_
    refine w_low dL_law_492 kL_125 dL_law_493 dL_law_496 ?_
    refine w_lor dL_law_497 32 4294967296 rfl (by decide) (by omega) (by omega) ?_
    refine v_cV (av := [.int (iI (a3:Nat)), .long (jL ((p2 * 4294967296) + (p3 % 4294967296))), .long (jL ((p4 * 4294967296) + (p5 % 4294967296)))]) (st := []) zyX11_ratio lL_130 h_47 rfl (p_Mratio (d := 10) hM hPL h3 (by omega) (by omega) (by decide)) dL_law_498 rfl rfl (Nat.le_of_ble_eq_true rfl) (by omega) (by omega) (by omega) (Or.inl (fun _ _ _ q => ZN q)) (fun r9 G2 n9 q9 => ?_)
    obtain ⟨rfl, q9n, hM, fr2⟩ := q9
    have q9n := q9n.symm
    subst q9n
    have hH := hH.fr fr2 (by decide)
    have h_90 := (fr2 90 (by decide)).trans h_90
    obtain ⟨_, _, _, _, _, _, _, _, _, _, _, _, h_47, -⟩ := id hM
    refine v_aload_n dL_law_501 rfl ?_
    refine v_cV (av := []) (st := []) zyX11_thrown lL_111 h_47 rfl (p_thrown (d := 10) hM) dL_law_502 rfl rfl (Nat.le_of_ble_eq_true rfl) (by omega) (by omega) (by omega) (Or.inl (fun _ _ _ q => ZN q)) (fun r9 K1 n9 q9 => ?_)
    obtain ⟨rfl, q9n, q9h⟩ := q9
    have q9n := q9n.symm
    subst q9n
    have q9h := q9h.symm
    subst q9h
    refine v_iload dL_law_505 rfl ?_
    refine w_icmp_same 512 dL_law_507 (by decide) ?_
    refine v_goto 1791 dL_law_512 (by decide) ?_
    refine w_sub (lv2 := [(0, .ref 1000), (1, .ref 0), (2, .ref 47), (3, .ref 90), (4, .int (iI (i:Nat)))]) [1, 2, 3, 4, 5] rfl ?_
    exact kont _ _ _ ⟨wd, zup pt a3 (mra wd a3 (p2 * 4294967296 + p3 % 4294967296) (p4 * 4294967296 + p5 % 4294967296)), tf, Q, qn, tc, L, _, _, hH, hM, h_90, hPL.up (if_lt (hf_lt (hPL a3 h3).1) (rdR_lt (hPL a3 h3).1)), hbb, htc, hQb.mono (by omega)⟩ (by omega) (by omega)
set_option maxHeartbeats 8000000 in
set_option maxRecDepth 100000 in
theorem c_whole {X : zX} {i cells slots N L9 : Nat} {sc : Nat → Int} {h : zH} (hE : zLE X) (hSc : zSc X L9 sc) (hi : i + 6 ≤ L9) (hc : cells + 2 ≤ 601024) (hs : slots + 9 ≤ 7293034) (hN : N ≤ 20000) (hI : LI h N)
    (kont : ∀ (h' : zH) (c' s' : Nat), LI h' (N + 32) → c' ≤ cells + 2 → s' ≤ slots + 9 → zV X PLW cL_law 8 RL (some .boolean) 11 601024 7293034 1791 [(0, .ref 1000), (1, .ref 0), (2, .ref 47), (3, .ref 90), (4, .int (iI (i:Nat)))] [] h' 91 c' s') :
    (zV X (PLW) cL_law 8 RL (some .boolean) 11 601024 7293034 515 [(0, .ref 1000), (1, .ref 0), (2, .ref 47), (3, .ref 90), (4, .int (iI (i:Nat)))] [] h 91 cells slots) := by
  have hL9 := hSc.l
  obtain ⟨wd, pt, tf, Q, qn, tc, L, th, g, hH, hM, h_90, hPL, hbb, htc, hQb⟩ := id hI
  obtain ⟨p1, e1⟩ : ∃ p, sc (i + 1) = p := ⟨_, rfl⟩
  have r1 := hSc.r (i + 1)
  rw [e1] at r1
  cases hx : isP p1 with
  | false =>
    refine v_aload_n dL_law_515 rfl ?_
    refine v_aload_n dL_law_516 rfl ?_
    refine v_iload dL_law_517 rfl ?_
    refine v_iconst (iI 1) dL_law_519 rfl ?_
    refine w_iadd dL_law_520 ?_
    refine w_sld hSc (by decide) dL_law_521 (i + 1) (by omega) (by omega) e1 ?_
    refine v_aload_n dL_law_522 rfl ?_
    refine v_cSW (av := [.ref 0, .int (iI p1), .ref 90]) (st := []) hE zyL_whole lL_131 (q_wholeI hH r1 hx) dL_law_523 rfl rfl (Nat.le_of_ble_eq_true rfl) (by omega) (by omega) (by omega) (Or.inl (fun _ _ _ q => ZN q)) (fun r9 G1 n9 q9 => ?_)
    obtain ⟨rfl, q9n, hH, fr1⟩ := q9
    have q9n := q9n.symm
    subst q9n
    have hM := hM.fr fr1 (by decide)
    have h_90 := (fr1 90 (by decide)).trans h_90
    obtain ⟨_, _, _, _, _, _, _, _, _, _, _, _, h_47, -⟩ := id hM
    refine v_istore (i := 5) (lv' := [(5, .int (iI 1)), (0, .ref 1000), (1, .ref 0), (2, .ref 47), (3, .ref 90), (4, .int (iI (i:Nat)))]) dL_law_526 (by decide) rfl ?_
    refine v_aload_n dL_law_528 rfl ?_
    refine v_aload_n dL_law_529 rfl ?_
    refine v_iload dL_law_530 rfl ?_
    refine v_iconst (iI 1) dL_law_532 rfl ?_
    refine w_iadd dL_law_533 ?_
    refine w_sld hSc (by decide) dL_law_534 (i + 1) (by omega) (by omega) e1 ?_
    refine v_cV (av := [.int (iI p1)]) (st := []) zyX11_whole lL_133 h_47 rfl (p_Mwholex (d := 10) hM r1 hx (by decide)) dL_law_535 rfl rfl (Nat.le_of_ble_eq_true rfl) (by omega) (by omega) (by omega) (Or.inl (fun _ _ _ q => ZN q)) (fun r9 G2 n9 q9 => ?_)
    obtain ⟨rfl, q9n, hM, fr2⟩ := q9
    have q9n := q9n.symm
    subst q9n
    have hH := hH.fr fr2 (by decide)
    have h_90 := (fr2 90 (by decide)).trans h_90
    obtain ⟨_, _, _, _, _, _, _, _, _, _, _, _, h_47, -⟩ := id hM
    refine v_lstore (i := 6) (lv' := [(6, .long (jL 0)), (5, .int (iI 1)), (0, .ref 1000), (1, .ref 0), (2, .ref 47), (3, .ref 90), (4, .int (iI (i:Nat)))]) dL_law_538 (by decide) rfl ?_
    refine v_aload_n dL_law_540 rfl ?_
    refine v_cV (av := []) (st := []) zyX11_thrown lL_111 h_47 rfl (p_thrown (d := 10) hM) dL_law_541 rfl rfl (Nat.le_of_ble_eq_true rfl) (by omega) (by omega) (by omega) (Or.inl (fun _ _ _ q => ZN q)) (fun r9 K1 n9 q9 => ?_)
    obtain ⟨rfl, q9n, q9h⟩ := q9
    have q9n := q9n.symm
    subst q9n
    have q9h := q9h.symm
    subst q9h
    refine v_iload dL_law_544 rfl ?_
    refine w_icmp_same 551 dL_law_546 (by decide) ?_
    refine v_iload dL_law_551 rfl ?_
    refine w_if_ne 567 dL_law_553 (by decide) (by decide) (fun c8 => ?_) (fun c8 => ?_)
    · skip
      refine v_goto 1791 dL_law_567 (by decide) ?_
      refine w_sub (lv2 := [(0, .ref 1000), (1, .ref 0), (2, .ref 47), (3, .ref 90), (4, .int (iI (i:Nat)))]) [2, 3, 4, 5, 6] rfl ?_
      exact kont _ _ _ ⟨wd, pt, tf, Q, qn, tc, L, _, _, hH, hM, h_90, hPL, hbb, htc, hQb.mono (by omega)⟩ (by omega) (by omega)
    · exact absurd c8 (by decide)
  | true =>
    obtain ⟨a1, q1, h1⟩ := n_P hx
    subst q1
    cases hy : mwB (pt a1) (wd a1) with
    | false =>
      refine v_aload_n dL_law_515 rfl ?_
      refine v_aload_n dL_law_516 rfl ?_
      refine v_iload dL_law_517 rfl ?_
      refine v_iconst (iI 1) dL_law_519 rfl ?_
      refine w_iadd dL_law_520 ?_
      refine w_sld hSc (by decide) dL_law_521 (i + 1) (by omega) (by omega) e1 ?_
      refine v_aload_n dL_law_522 rfl ?_
      refine v_cSW (av := [.ref 0, .int (iI (a1:Nat)), .ref 90]) (st := []) hE zyL_whole lL_131 (q_whole hH h_90 hPL h1 hy) dL_law_523 rfl rfl (Nat.le_of_ble_eq_true rfl) (by omega) (by omega) (by omega) (Or.inl (fun _ _ _ q => ZN q)) (fun r9 G1 n9 q9 => ?_)
      obtain ⟨rfl, q9n, hH, h_90, fr1⟩ := q9
      have q9n := q9n.symm
      subst q9n
      have hM := hM.fr fr1 (by decide)
      obtain ⟨_, _, _, _, _, _, _, _, _, _, _, _, h_47, -⟩ := id hM
      refine v_istore (i := 5) (lv' := [(5, .int (iI 0)), (0, .ref 1000), (1, .ref 0), (2, .ref 47), (3, .ref 90), (4, .int (iI (i:Nat)))]) dL_law_526 (by decide) rfl ?_
      refine v_aload_n dL_law_528 rfl ?_
      refine v_aload_n dL_law_529 rfl ?_
      refine v_iload dL_law_530 rfl ?_
      refine v_iconst (iI 1) dL_law_532 rfl ?_
      refine w_iadd dL_law_533 ?_
      refine w_sld hSc (by decide) dL_law_534 (i + 1) (by omega) (by omega) e1 ?_
      refine v_cV (av := [.int (iI (a1:Nat))]) (st := []) zyX11_whole lL_133 h_47 rfl (p_wholeV (d := 10) hM hPL h1 hy (by decide)) dL_law_535 rfl rfl (Nat.le_of_ble_eq_true rfl) (by omega) (by omega) (by omega) (Or.inl (fun _ _ _ q => ZN q)) (fun r9 G2 n9 q9 => ?_)
      obtain ⟨rfl, q9n, hM, fr2⟩ := q9
      have q9n := q9n.symm
      subst q9n
      have hH := hH.fr fr2 (by decide)
      have h_90 := (fr2 90 (by decide)).trans h_90
      obtain ⟨_, _, _, _, _, _, _, _, _, _, _, _, h_47, -⟩ := id hM
      refine v_lstore (i := 6) (lv' := [(6, .long (jL (sgI (pvI (pt a1) (wd a1)) * (mwv 3 (pvI (pt a1) (wd a1)) : Nat)))), (5, .int (iI 0)), (0, .ref 1000), (1, .ref 0), (2, .ref 47), (3, .ref 90), (4, .int (iI (i:Nat)))]) dL_law_538 (by decide) rfl ?_
      refine v_aload_n dL_law_540 rfl ?_
      refine v_cV (av := []) (st := []) zyX11_thrown lL_111 h_47 rfl (p_thrown (d := 10) hM) dL_law_541 rfl rfl (Nat.le_of_ble_eq_true rfl) (by omega) (by omega) (by omega) (Or.inl (fun _ _ _ q => ZN q)) (fun r9 K1 n9 q9 => ?_)
      obtain ⟨rfl, q9n, q9h⟩ := q9
      have q9n := q9n.symm
      subst q9n
      have q9h := q9h.symm
      subst q9h
      refine v_iload dL_law_544 rfl ?_
      refine w_icmp_same 551 dL_law_546 (by decide) ?_
      refine v_iload dL_law_551 rfl ?_
      refine w_if_ne 567 dL_law_553 (by decide) (by decide) (fun c8 => ?_) (fun c8 => ?_)
      · exact absurd rfl c8
      · skip
        refine v_aload_n dL_law_556 rfl ?_
        refine v_iconst (iI 0) dL_law_557 rfl ?_
        refine w_lald dL_law_558 h_90 0 rfl (by decide) (by decide) ?_
        refine w_el (sgI (pvI (pt a1) (wd a1)) * (mwv 3 (pvI (pt a1) (wd a1)) : Nat)) (zup_same _ _ _) ?_
        refine v_lload dL_law_559 rfl ?_
        refine w_lcmp_same 567 dL_law_561 dL_law_562 (by decide) ?_
        refine v_goto 1791 dL_law_567 (by decide) ?_
        refine w_sub (lv2 := [(0, .ref 1000), (1, .ref 0), (2, .ref 47), (3, .ref 90), (4, .int (iI (i:Nat)))]) [2, 3, 4, 5, 6] rfl ?_
        exact kont _ _ _ ⟨wd, pt, tf, Q, qn, tc, L, _, _, hH, hM, h_90, hPL, hbb, htc, hQb.mono (by omega)⟩ (by omega) (by omega)
    | true =>
      refine v_aload_n dL_law_515 rfl ?_
      refine v_aload_n dL_law_516 rfl ?_
      refine v_iload dL_law_517 rfl ?_
      refine v_iconst (iI 1) dL_law_519 rfl ?_
      refine w_iadd dL_law_520 ?_
      refine w_sld hSc (by decide) dL_law_521 (i + 1) (by omega) (by omega) e1 ?_
      refine v_aload_n dL_law_522 rfl ?_
      refine v_cSW (av := [.ref 0, .int (iI (a1:Nat)), .ref 90]) (st := []) hE zyL_whole lL_131 (q_wholeM hH h1 hPL hy) dL_law_523 rfl rfl (Nat.le_of_ble_eq_true rfl) (by omega) (by omega) (by omega) (Or.inl (fun _ _ _ q => ZN q)) (fun r9 G1 n9 q9 => ?_)
      obtain ⟨rfl, q9n, hH, fr1⟩ := q9
      have q9n := q9n.symm
      subst q9n
      have hM := hM.fr fr1 (by decide)
      have h_90 := (fr1 90 (by decide)).trans h_90
      obtain ⟨_, _, _, _, _, _, _, _, _, _, _, _, h_47, -⟩ := id hM
      refine v_istore (i := 5) (lv' := [(5, .int (iI 2)), (0, .ref 1000), (1, .ref 0), (2, .ref 47), (3, .ref 90), (4, .int (iI (i:Nat)))]) dL_law_526 (by decide) rfl ?_
      refine v_aload_n dL_law_528 rfl ?_
      refine v_aload_n dL_law_529 rfl ?_
      refine v_iload dL_law_530 rfl ?_
      refine v_iconst (iI 1) dL_law_532 rfl ?_
      refine w_iadd dL_law_533 ?_
      refine w_sld hSc (by decide) dL_law_534 (i + 1) (by omega) (by omega) e1 ?_
      refine v_cV (av := [.int (iI (a1:Nat))]) (st := []) zyX11_whole lL_133 h_47 rfl (p_wholeW (d := 10) hM hPL h1 hy (by decide)) dL_law_535 rfl rfl (Nat.le_of_ble_eq_true rfl) (by omega) (by omega) (by omega) (Or.inl (fun _ _ _ q => ZN q)) (fun r9 G2 n9 q9 => ?_)
      obtain ⟨rfl, q9n, hM, fr2⟩ := q9
      have q9n := q9n.symm
      subst q9n
      have hH := hH.fr fr2 (by decide)
      have h_90 := (fr2 90 (by decide)).trans h_90
      obtain ⟨_, _, _, _, _, _, _, _, _, _, _, _, h_47, -⟩ := id hM
      refine v_lstore (i := 6) (lv' := [(6, .long (jL 0)), (5, .int (iI 2)), (0, .ref 1000), (1, .ref 0), (2, .ref 47), (3, .ref 90), (4, .int (iI (i:Nat)))]) dL_law_538 (by decide) rfl ?_
      refine v_aload_n dL_law_540 rfl ?_
      refine v_cV (av := []) (st := []) zyX11_thrown lL_111 h_47 rfl (p_thrown (d := 10) hM) dL_law_541 rfl rfl (Nat.le_of_ble_eq_true rfl) (by omega) (by omega) (by omega) (Or.inl (fun _ _ _ q => ZN q)) (fun r9 K1 n9 q9 => ?_)
      obtain ⟨rfl, q9n, q9h⟩ := q9
      have q9n := q9n.symm
      subst q9n
      have q9h := q9h.symm
      subst q9h
      refine v_iload dL_law_544 rfl ?_
      refine w_icmp_same 551 dL_law_546 (by decide) ?_
      refine v_iload dL_law_551 rfl ?_
      refine w_if_ne 567 dL_law_553 (by decide) (by decide) (fun c8 => ?_) (fun c8 => ?_)
      · skip
        refine v_goto 1791 dL_law_567 (by decide) ?_
        refine w_sub (lv2 := [(0, .ref 1000), (1, .ref 0), (2, .ref 47), (3, .ref 90), (4, .int (iI (i:Nat)))]) [2, 3, 4, 5, 6] rfl ?_
        exact kont _ _ _ ⟨wd, pt, tf, Q, qn, tc, L, _, _, hH, hM, h_90, hPL, hbb, htc, hQb.mono (by omega)⟩ (by omega) (by omega)
      · exact absurd c8 (by decide)
set_option maxHeartbeats 8000000 in
set_option maxRecDepth 100000 in
theorem c_order {X : zX} {i cells slots N L9 : Nat} {sc : Nat → Int} {h : zH} (hE : zLE X) (hSc : zSc X L9 sc) (hi : i + 6 ≤ L9) (hc : cells + 2 ≤ 601024) (hs : slots + 9 ≤ 7293034) (hN : N ≤ 20000) (hI : LI h N)
    (kont : ∀ (h' : zH) (c' s' : Nat), LI h' (N + 32) → c' ≤ cells + 2 → s' ≤ slots + 9 → zV X PLW cL_law 8 RL (some .boolean) 11 601024 7293034 1791 [(0, .ref 1000), (1, .ref 0), (2, .ref 47), (3, .ref 90), (4, .int (iI (i:Nat)))] [] h' 91 c' s') :
    (zV X (PLW) cL_law 8 RL (some .boolean) 11 601024 7293034 570 [(0, .ref 1000), (1, .ref 0), (2, .ref 47), (3, .ref 90), (4, .int (iI (i:Nat)))] [] h 91 cells slots) := by
  have hL9 := hSc.l
  obtain ⟨wd, pt, tf, Q, qn, tc, L, th, g, hH, hM, h_90, hPL, hbb, htc, hQb⟩ := id hI
  obtain ⟨p1, e1⟩ : ∃ p, sc (i + 1) = p := ⟨_, rfl⟩
  have r1 := hSc.r (i + 1)
  rw [e1] at r1
  obtain ⟨p2, e2⟩ : ∃ p, sc (i + 2) = p := ⟨_, rfl⟩
  have r2 := hSc.r (i + 2)
  rw [e2] at r2
  cases hx : (isP p1 && isP p2) with
  | false =>
    refine v_aload_n dL_law_570 rfl ?_
    refine v_aload_n dL_law_571 rfl ?_
    refine v_iload dL_law_572 rfl ?_
    refine v_iconst (iI 1) dL_law_574 rfl ?_
    refine w_iadd dL_law_575 ?_
    refine w_sld hSc (by decide) dL_law_576 (i + 1) (by omega) (by omega) e1 ?_
    refine v_aload_n dL_law_577 rfl ?_
    refine v_iload dL_law_578 rfl ?_
    refine v_iconst (iI 2) dL_law_580 rfl ?_
    refine w_iadd dL_law_581 ?_
    refine w_sld hSc (by decide) dL_law_582 (i + 2) (by omega) (by omega) e2 ?_
    refine v_aload_n dL_law_583 rfl ?_
    refine v_cSW (av := [.ref 0, .int (iI p1), .int (iI p2), .ref 90]) (st := []) hE zyL_order lL_134 (q_orderI hH r1 r2 hx) dL_law_584 rfl rfl (Nat.le_of_ble_eq_true rfl) (by omega) (by omega) (by omega) (Or.inl (fun _ _ _ q => ZN q)) (fun r9 G1 n9 q9 => ?_)
    obtain ⟨rfl, q9n, hH, fr1⟩ := q9
    have q9n := q9n.symm
    subst q9n
    have hM := hM.fr fr1 (by decide)
    have h_90 := (fr1 90 (by decide)).trans h_90
    obtain ⟨_, _, _, _, _, _, _, _, _, _, _, _, h_47, -⟩ := id hM
    refine v_istore (i := 5) (lv' := [(5, .int (iI 1)), (0, .ref 1000), (1, .ref 0), (2, .ref 47), (3, .ref 90), (4, .int (iI (i:Nat)))]) dL_law_587 (by decide) rfl ?_
    refine v_aload_n dL_law_589 rfl ?_
    refine v_aload_n dL_law_590 rfl ?_
    refine v_iload dL_law_591 rfl ?_
    refine v_iconst (iI 1) dL_law_593 rfl ?_
    refine w_iadd dL_law_594 ?_
    refine w_sld hSc (by decide) dL_law_595 (i + 1) (by omega) (by omega) e1 ?_
    refine v_aload_n dL_law_596 rfl ?_
    refine v_iload dL_law_597 rfl ?_
    refine v_iconst (iI 2) dL_law_599 rfl ?_
    refine w_iadd dL_law_600 ?_
    refine w_sld hSc (by decide) dL_law_601 (i + 2) (by omega) (by omega) e2 ?_
    refine v_cV (av := [.int (iI p1), .int (iI p2)]) (st := []) zyX11_order lL_137 h_47 rfl (p_Morderx (d := 10) hM r1 r2 (by rw [hx]; rfl) (by decide)) dL_law_602 rfl rfl (Nat.le_of_ble_eq_true rfl) (by omega) (by omega) (by omega) (Or.inl (fun _ _ _ q => ZN q)) (fun r9 G2 n9 q9 => ?_)
    obtain ⟨rfl, q9n, hM, fr2⟩ := q9
    have q9n := q9n.symm
    subst q9n
    have hH := hH.fr fr2 (by decide)
    have h_90 := (fr2 90 (by decide)).trans h_90
    rw [show thr (isP p1 && isP p2) true = 1 from by rw [hx]; rfl] at hM
    obtain ⟨_, _, _, _, _, _, _, _, _, _, _, _, h_47, -⟩ := id hM
    refine v_istore (i := 6) (lv' := [(6, .int (iI 0)), (5, .int (iI 1)), (0, .ref 1000), (1, .ref 0), (2, .ref 47), (3, .ref 90), (4, .int (iI (i:Nat)))]) dL_law_605 (by decide) rfl ?_
    refine v_aload_n dL_law_607 rfl ?_
    refine v_cV (av := []) (st := []) zyX11_thrown lL_111 h_47 rfl (p_thrown (d := 10) hM) dL_law_608 rfl rfl (Nat.le_of_ble_eq_true rfl) (by omega) (by omega) (by omega) (Or.inl (fun _ _ _ q => ZN q)) (fun r9 K1 n9 q9 => ?_)
    obtain ⟨rfl, q9n, q9h⟩ := q9
    have q9n := q9n.symm
    subst q9n
    have q9h := q9h.symm
    subst q9h
    refine v_iload dL_law_611 rfl ?_
    refine w_icmp_same 618 dL_law_613 (by decide) ?_
    refine v_iload dL_law_618 rfl ?_
    refine w_if_ne 635 dL_law_620 (by decide) (by decide) (fun c8 => ?_) (fun c8 => ?_)
    · skip
      refine v_goto 1791 dL_law_635 (by decide) ?_
      refine w_sub (lv2 := [(0, .ref 1000), (1, .ref 0), (2, .ref 47), (3, .ref 90), (4, .int (iI (i:Nat)))]) [2, 3, 4, 5, 6] rfl ?_
      exact kont _ _ _ ⟨wd, pt, tf, Q, qn, tc, L, _, _, hH, hM, h_90, hPL, hbb, htc, hQb.mono (by omega)⟩ (by omega) (by omega)
    · exact absurd c8 (by decide)
  | true =>
    rw [Bool.and_eq_true] at hx
    obtain ⟨a1, q1, h1⟩ := n_P hx.1
    subst q1
    obtain ⟨a2, q2, h2⟩ := n_P hx.2
    subst q2
    refine v_aload_n dL_law_570 rfl ?_
    refine v_aload_n dL_law_571 rfl ?_
    refine v_iload dL_law_572 rfl ?_
    refine v_iconst (iI 1) dL_law_574 rfl ?_
    refine w_iadd dL_law_575 ?_
    refine w_sld hSc (by decide) dL_law_576 (i + 1) (by omega) (by omega) e1 ?_
    refine v_aload_n dL_law_577 rfl ?_
    refine v_iload dL_law_578 rfl ?_
    refine v_iconst (iI 2) dL_law_580 rfl ?_
    refine w_iadd dL_law_581 ?_
    refine w_sld hSc (by decide) dL_law_582 (i + 2) (by omega) (by omega) e2 ?_
    refine v_aload_n dL_law_583 rfl ?_
    refine v_cSW (av := [.ref 0, .int (iI (a1:Nat)), .int (iI (a2:Nat)), .ref 90]) (st := []) hE zyL_order lL_134 (q_order hH h_90 hPL h1 h2) dL_law_584 rfl rfl (Nat.le_of_ble_eq_true rfl) (by omega) (by omega) (by omega) (Or.inl (fun _ _ _ q => ZN q)) (fun r9 G1 n9 q9 => ?_)
    obtain ⟨rfl, q9n, hH, h_90, fr1⟩ := q9
    have q9n := q9n.symm
    subst q9n
    have hM := hM.fr fr1 (by decide)
    obtain ⟨_, _, _, _, _, _, _, _, _, _, _, _, h_47, -⟩ := id hM
    refine v_istore (i := 5) (lv' := [(5, .int (iI 0)), (0, .ref 1000), (1, .ref 0), (2, .ref 47), (3, .ref 90), (4, .int (iI (i:Nat)))]) dL_law_587 (by decide) rfl ?_
    refine v_aload_n dL_law_589 rfl ?_
    refine v_aload_n dL_law_590 rfl ?_
    refine v_iload dL_law_591 rfl ?_
    refine v_iconst (iI 1) dL_law_593 rfl ?_
    refine w_iadd dL_law_594 ?_
    refine w_sld hSc (by decide) dL_law_595 (i + 1) (by omega) (by omega) e1 ?_
    refine v_aload_n dL_law_596 rfl ?_
    refine v_iload dL_law_597 rfl ?_
    refine v_iconst (iI 2) dL_law_599 rfl ?_
    refine w_iadd dL_law_600 ?_
    refine w_sld hSc (by decide) dL_law_601 (i + 2) (by omega) (by omega) e2 ?_
    refine v_cV (av := [.int (iI (a1:Nat)), .int (iI (a2:Nat))]) (st := []) zyX11_order lL_137 h_47 rfl (p_Morder (d := 10) hM hPL h1 h2 (by decide)) dL_law_602 rfl rfl (Nat.le_of_ble_eq_true rfl) (by omega) (by omega) (by omega) (Or.inl (fun _ _ _ q => ZN q)) (fun r9 G2 n9 q9 => ?_)
    obtain ⟨rfl, q9n, hM, fr2⟩ := q9
    have q9n := q9n.symm
    subst q9n
    have hH := hH.fr fr2 (by decide)
    have h_90 := (fr2 90 (by decide)).trans h_90
    obtain ⟨_, _, _, _, _, _, _, _, _, _, _, _, h_47, -⟩ := id hM
    refine v_istore (i := 6) (lv' := [(6, .int (iI (mor wd pt a1 a2))), (5, .int (iI 0)), (0, .ref 1000), (1, .ref 0), (2, .ref 47), (3, .ref 90), (4, .int (iI (i:Nat)))]) dL_law_605 (by decide) rfl ?_
    refine v_aload_n dL_law_607 rfl ?_
    refine v_cV (av := []) (st := []) zyX11_thrown lL_111 h_47 rfl (p_thrown (d := 10) hM) dL_law_608 rfl rfl (Nat.le_of_ble_eq_true rfl) (by omega) (by omega) (by omega) (Or.inl (fun _ _ _ q => ZN q)) (fun r9 K1 n9 q9 => ?_)
    obtain ⟨rfl, q9n, q9h⟩ := q9
    have q9n := q9n.symm
    subst q9n
    have q9h := q9h.symm
    subst q9h
    refine v_iload dL_law_611 rfl ?_
    refine w_icmp_same 618 dL_law_613 (by decide) ?_
    refine v_iload dL_law_618 rfl ?_
    refine w_if_ne 635 dL_law_620 (by decide) (by decide) (fun c8 => ?_) (fun c8 => ?_)
    · exact absurd rfl c8
    · skip
      refine v_aload_n dL_law_623 rfl ?_
      refine v_iconst (iI 0) dL_law_624 rfl ?_
      refine w_lald dL_law_625 h_90 0 rfl (by decide) (by decide) ?_
      refine w_el (s32 (mor wd pt a1 a2)) (zup_same _ _ _) ?_
      refine v_iload dL_law_626 rfl ?_
      refine w_topi (s32 (mor wd pt a1 a2)) (s32_m _) ?_
      refine w_i2l dL_law_628 (s32_r _) ?_
      refine w_lcmp_same 635 dL_law_629 dL_law_630 (by decide) ?_
      refine v_goto 1791 dL_law_635 (by decide) ?_
      refine w_sub (lv2 := [(0, .ref 1000), (1, .ref 0), (2, .ref 47), (3, .ref 90), (4, .int (iI (i:Nat)))]) [2, 3, 4, 5, 6] rfl ?_
      exact kont _ _ _ ⟨wd, pt, tf, Q, qn, tc, L, _, _, hH, hM, h_90, hPL, hbb, htc, hQb.mono (by omega)⟩ (by omega) (by omega)
set_option maxHeartbeats 8000000 in
set_option maxRecDepth 100000 in
theorem c_root {X : zX} {i cells slots N L9 : Nat} {sc : Nat → Int} {h : zH} (hE : zLE X) (hSc : zSc X L9 sc) (hi : i + 6 ≤ L9) (hc : cells + 2 ≤ 601024) (hs : slots + 9 ≤ 7293034) (hN : N ≤ 20000) (hI : LI h N)
    (kont : ∀ (h' : zH) (c' s' : Nat), LI h' (N + 32) → c' ≤ cells + 2 → s' ≤ slots + 9 → zV X PLW cL_law 8 RL (some .boolean) 11 601024 7293034 1791 [(0, .ref 1000), (1, .ref 0), (2, .ref 47), (3, .ref 90), (4, .int (iI (i:Nat)))] [] h' 91 c' s') :
    (zV X (PLW) cL_law 8 RL (some .boolean) 11 601024 7293034 938 [(0, .ref 1000), (1, .ref 0), (2, .ref 47), (3, .ref 90), (4, .int (iI (i:Nat)))] [] h 91 cells slots) := by
  have hL9 := hSc.l
  obtain ⟨wd, pt, tf, Q, qn, tc, L, th, g, hH, hM, h_90, hPL, hbb, htc, hQb⟩ := id hI
  obtain ⟨p1, e1⟩ : ∃ p, sc (i + 1) = p := ⟨_, rfl⟩
  have r1 := hSc.r (i + 1)
  rw [e1] at r1
  obtain ⟨p2, e2⟩ : ∃ p, sc (i + 2) = p := ⟨_, rfl⟩
  have r2 := hSc.r (i + 2)
  rw [e2] at r2
  obtain ⟨p3, e3⟩ : ∃ p, sc (i + 3) = p := ⟨_, rfl⟩
  have r3 := hSc.r (i + 3)
  rw [e3] at r3
  cases hx : (isP p1 && isP p3) with
  | false =>
    refine v_aload_n dL_law_938 rfl ?_
    refine v_aload_n dL_law_939 rfl ?_
    refine v_iload dL_law_940 rfl ?_
    refine v_iconst (iI 1) dL_law_942 rfl ?_
    refine w_iadd dL_law_943 ?_
    refine w_sld hSc (by decide) dL_law_944 (i + 1) (by omega) (by omega) e1 ?_
    refine v_aload_n dL_law_945 rfl ?_
    refine v_iload dL_law_946 rfl ?_
    refine v_iconst (iI 2) dL_law_948 rfl ?_
    refine w_iadd dL_law_949 ?_
    refine w_sld hSc (by decide) dL_law_950 (i + 2) (by omega) (by omega) e2 ?_
    refine v_aload_n dL_law_951 rfl ?_
    refine v_iload dL_law_952 rfl ?_
    refine v_iconst (iI 3) dL_law_954 rfl ?_
    refine w_iadd dL_law_955 ?_
    refine w_sld hSc (by decide) dL_law_956 (i + 3) (by omega) (by omega) e3 ?_
    refine v_cSW (av := [.ref 0, .int (iI p1), .int (iI p2), .int (iI p3)]) (st := []) hE zyL_root lL_153 (q_rootI hH r1 r2 r3 hx) dL_law_957 rfl rfl (Nat.le_of_ble_eq_true rfl) (by omega) (by omega) (by omega) (Or.inl (fun _ _ _ q => ZN q)) (fun r9 G1 n9 q9 => ?_)
    obtain ⟨rfl, q9n, hH, fr1⟩ := q9
    have q9n := q9n.symm
    subst q9n
    have hM := hM.fr fr1 (by decide)
    have h_90 := (fr1 90 (by decide)).trans h_90
    obtain ⟨_, _, _, _, _, _, _, _, _, _, _, _, h_47, -⟩ := id hM
    refine v_istore (i := 5) (lv' := [(5, .int (iI 1)), (0, .ref 1000), (1, .ref 0), (2, .ref 47), (3, .ref 90), (4, .int (iI (i:Nat)))]) dL_law_960 (by decide) rfl ?_
    refine v_aload_n dL_law_962 rfl ?_
    refine v_aload_n dL_law_963 rfl ?_
    refine v_iload dL_law_964 rfl ?_
    refine v_iconst (iI 1) dL_law_966 rfl ?_
    refine w_iadd dL_law_967 ?_
    refine w_sld hSc (by decide) dL_law_968 (i + 1) (by omega) (by omega) e1 ?_
    refine v_aload_n dL_law_969 rfl ?_
    refine v_iload dL_law_970 rfl ?_
    refine v_iconst (iI 2) dL_law_972 rfl ?_
    refine w_iadd dL_law_973 ?_
    refine w_sld hSc (by decide) dL_law_974 (i + 2) (by omega) (by omega) e2 ?_
    refine v_aload_n dL_law_975 rfl ?_
    refine v_iload dL_law_976 rfl ?_
    refine v_iconst (iI 3) dL_law_978 rfl ?_
    refine w_iadd dL_law_979 ?_
    refine w_sld hSc (by decide) dL_law_980 (i + 3) (by omega) (by omega) e3 ?_
    refine v_cV (av := [.int (iI p1), .int (iI p2), .int (iI p3)]) (st := []) zyX11_root lL_155 h_47 rfl (p_Mrootx (d := 10) hM r1 r2 r3 (by rw [hx]; rfl) (by decide)) dL_law_981 rfl rfl (Nat.le_of_ble_eq_true rfl) (by omega) (by omega) (by omega) (Or.inl (fun _ _ _ q => ZN q)) (fun r9 G2 n9 q9 => ?_)
    obtain ⟨rfl, q9n, hM, fr2⟩ := q9
    have q9n := q9n.symm
    subst q9n
    have hH := hH.fr fr2 (by decide)
    have h_90 := (fr2 90 (by decide)).trans h_90
    rw [show thr (isP p1 && isP p3) (decide (1 ≤ p2 ∧ p2 ≤ 8)) = 1 from by rw [hx]; rfl] at hM
    obtain ⟨_, _, _, _, _, _, _, _, _, _, _, _, h_47, -⟩ := id hM
    refine v_aload_n dL_law_984 rfl ?_
    refine v_cV (av := []) (st := []) zyX11_thrown lL_111 h_47 rfl (p_thrown (d := 10) hM) dL_law_985 rfl rfl (Nat.le_of_ble_eq_true rfl) (by omega) (by omega) (by omega) (Or.inl (fun _ _ _ q => ZN q)) (fun r9 K1 n9 q9 => ?_)
    obtain ⟨rfl, q9n, q9h⟩ := q9
    have q9n := q9n.symm
    subst q9n
    have q9h := q9h.symm
    subst q9h
    refine v_iload dL_law_988 rfl ?_
    refine w_icmp_same 995 dL_law_990 (by decide) ?_
    refine v_goto 1791 dL_law_995 (by decide) ?_
    refine w_sub (lv2 := [(0, .ref 1000), (1, .ref 0), (2, .ref 47), (3, .ref 90), (4, .int (iI (i:Nat)))]) [1, 2, 3, 4, 5] rfl ?_
    exact kont _ _ _ ⟨wd, pt, tf, Q, qn, tc, L, _, _, hH, hM, h_90, hPL, hbb, htc, hQb.mono (by omega)⟩ (by omega) (by omega)
  | true =>
    cases hy : decide (1 ≤ p2 ∧ p2 ≤ 8) with
    | false =>
      have hx2 := hx
      rw [Bool.and_eq_true] at hx2
      refine v_aload_n dL_law_938 rfl ?_
      refine v_aload_n dL_law_939 rfl ?_
      refine v_iload dL_law_940 rfl ?_
      refine v_iconst (iI 1) dL_law_942 rfl ?_
      refine w_iadd dL_law_943 ?_
      refine w_sld hSc (by decide) dL_law_944 (i + 1) (by omega) (by omega) e1 ?_
      refine v_aload_n dL_law_945 rfl ?_
      refine v_iload dL_law_946 rfl ?_
      refine v_iconst (iI 2) dL_law_948 rfl ?_
      refine w_iadd dL_law_949 ?_
      refine w_sld hSc (by decide) dL_law_950 (i + 2) (by omega) (by omega) e2 ?_
      refine v_aload_n dL_law_951 rfl ?_
      refine v_iload dL_law_952 rfl ?_
      refine v_iconst (iI 3) dL_law_954 rfl ?_
      refine w_iadd dL_law_955 ?_
      refine w_sld hSc (by decide) dL_law_956 (i + 3) (by omega) (by omega) e3 ?_
      refine v_cSW (av := [.ref 0, .int (iI p1), .int (iI p2), .int (iI p3)]) (st := []) hE zyL_root lL_153 (q_rootA hH r1 r2 r3 hx2.1 hx2.2 (of_decide_eq_false hy)) dL_law_957 rfl rfl (Nat.le_of_ble_eq_true rfl) (by omega) (by omega) (by omega) (Or.inl (fun _ _ _ q => ZN q)) (fun r9 G1 n9 q9 => ?_)
      obtain ⟨rfl, q9n, hH, fr1⟩ := q9
      have q9n := q9n.symm
      subst q9n
      have hM := hM.fr fr1 (by decide)
      have h_90 := (fr1 90 (by decide)).trans h_90
      obtain ⟨_, _, _, _, _, _, _, _, _, _, _, _, h_47, -⟩ := id hM
      refine v_istore (i := 5) (lv' := [(5, .int (iI 2)), (0, .ref 1000), (1, .ref 0), (2, .ref 47), (3, .ref 90), (4, .int (iI (i:Nat)))]) dL_law_960 (by decide) rfl ?_
      refine v_aload_n dL_law_962 rfl ?_
      refine v_aload_n dL_law_963 rfl ?_
      refine v_iload dL_law_964 rfl ?_
      refine v_iconst (iI 1) dL_law_966 rfl ?_
      refine w_iadd dL_law_967 ?_
      refine w_sld hSc (by decide) dL_law_968 (i + 1) (by omega) (by omega) e1 ?_
      refine v_aload_n dL_law_969 rfl ?_
      refine v_iload dL_law_970 rfl ?_
      refine v_iconst (iI 2) dL_law_972 rfl ?_
      refine w_iadd dL_law_973 ?_
      refine w_sld hSc (by decide) dL_law_974 (i + 2) (by omega) (by omega) e2 ?_
      refine v_aload_n dL_law_975 rfl ?_
      refine v_iload dL_law_976 rfl ?_
      refine v_iconst (iI 3) dL_law_978 rfl ?_
      refine w_iadd dL_law_979 ?_
      refine w_sld hSc (by decide) dL_law_980 (i + 3) (by omega) (by omega) e3 ?_
      refine v_cV (av := [.int (iI p1), .int (iI p2), .int (iI p3)]) (st := []) zyX11_root lL_155 h_47 rfl (p_Mrootx (d := 10) hM r1 r2 r3 (by rw [hx, hy]; rfl) (by decide)) dL_law_981 rfl rfl (Nat.le_of_ble_eq_true rfl) (by omega) (by omega) (by omega) (Or.inl (fun _ _ _ q => ZN q)) (fun r9 G2 n9 q9 => ?_)
      obtain ⟨rfl, q9n, hM, fr2⟩ := q9
      have q9n := q9n.symm
      subst q9n
      have hH := hH.fr fr2 (by decide)
      have h_90 := (fr2 90 (by decide)).trans h_90
      rw [show thr (isP p1 && isP p3) (decide (1 ≤ p2 ∧ p2 ≤ 8)) = 2 from by rw [hx, hy]; rfl] at hM
      obtain ⟨_, _, _, _, _, _, _, _, _, _, _, _, h_47, -⟩ := id hM
      refine v_aload_n dL_law_984 rfl ?_
      refine v_cV (av := []) (st := []) zyX11_thrown lL_111 h_47 rfl (p_thrown (d := 10) hM) dL_law_985 rfl rfl (Nat.le_of_ble_eq_true rfl) (by omega) (by omega) (by omega) (Or.inl (fun _ _ _ q => ZN q)) (fun r9 K1 n9 q9 => ?_)
      obtain ⟨rfl, q9n, q9h⟩ := q9
      have q9n := q9n.symm
      subst q9n
      have q9h := q9h.symm
      subst q9h
      refine v_iload dL_law_988 rfl ?_
      refine w_icmp_same 995 dL_law_990 (by decide) ?_
      refine v_goto 1791 dL_law_995 (by decide) ?_
      refine w_sub (lv2 := [(0, .ref 1000), (1, .ref 0), (2, .ref 47), (3, .ref 90), (4, .int (iI (i:Nat)))]) [1, 2, 3, 4, 5] rfl ?_
      exact kont _ _ _ ⟨wd, pt, tf, Q, qn, tc, L, _, _, hH, hM, h_90, hPL, hbb, htc, hQb.mono (by omega)⟩ (by omega) (by omega)
    | true =>
      rw [Bool.and_eq_true] at hx
      have hy := of_decide_eq_true hy
      obtain ⟨a1, q1, h1⟩ := n_P hx.1
      subst q1
      obtain ⟨a3, q3, h3⟩ := n_P hx.2
      subst q3
      obtain ⟨k, q2⟩ := n_n (p := p2) (by omega)
      subst q2
      refine v_aload_n dL_law_938 rfl ?_
      refine v_aload_n dL_law_939 rfl ?_
      refine v_iload dL_law_940 rfl ?_
      refine v_iconst (iI 1) dL_law_942 rfl ?_
      refine w_iadd dL_law_943 ?_
      refine w_sld hSc (by decide) dL_law_944 (i + 1) (by omega) (by omega) e1 ?_
      refine v_aload_n dL_law_945 rfl ?_
      refine v_iload dL_law_946 rfl ?_
      refine v_iconst (iI 2) dL_law_948 rfl ?_
      refine w_iadd dL_law_949 ?_
      refine w_sld hSc (by decide) dL_law_950 (i + 2) (by omega) (by omega) e2 ?_
      refine v_aload_n dL_law_951 rfl ?_
      refine v_iload dL_law_952 rfl ?_
      refine v_iconst (iI 3) dL_law_954 rfl ?_
      refine w_iadd dL_law_955 ?_
      refine w_sld hSc (by decide) dL_law_956 (i + 3) (by omega) (by omega) e3 ?_
      refine v_cSW (av := [.ref 0, .int (iI (a1:Nat)), .int (iI (k:Nat)), .int (iI (a3:Nat))]) (st := []) hE zyL_root lL_153 (q_root hH hPL h1 (by omega) h3) dL_law_957 rfl rfl (Nat.le_of_ble_eq_true rfl) (by omega) (by omega) (by omega) (Or.inl (fun _ _ _ q => ZN q)) (fun r9 G1 n9 q9 => ?_)
      obtain ⟨rfl, q9n, hH, fr1⟩ := q9
      have q9n := q9n.symm
      subst q9n
      have hM := hM.fr fr1 (by decide)
      have h_90 := (fr1 90 (by decide)).trans h_90
      obtain ⟨_, _, _, _, _, _, _, _, _, _, _, _, h_47, -⟩ := id hM
      refine v_istore (i := 5) (lv' := [(5, .int (iI 0)), (0, .ref 1000), (1, .ref 0), (2, .ref 47), (3, .ref 90), (4, .int (iI (i:Nat)))]) dL_law_960 (by decide) rfl ?_
      refine v_aload_n dL_law_962 rfl ?_
      refine v_aload_n dL_law_963 rfl ?_
      refine v_iload dL_law_964 rfl ?_
      refine v_iconst (iI 1) dL_law_966 rfl ?_
      refine w_iadd dL_law_967 ?_
      refine w_sld hSc (by decide) dL_law_968 (i + 1) (by omega) (by omega) e1 ?_
      refine v_aload_n dL_law_969 rfl ?_
      refine v_iload dL_law_970 rfl ?_
      refine v_iconst (iI 2) dL_law_972 rfl ?_
      refine w_iadd dL_law_973 ?_
      refine w_sld hSc (by decide) dL_law_974 (i + 2) (by omega) (by omega) e2 ?_
      refine v_aload_n dL_law_975 rfl ?_
      refine v_iload dL_law_976 rfl ?_
      refine v_iconst (iI 3) dL_law_978 rfl ?_
      refine w_iadd dL_law_979 ?_
      refine w_sld hSc (by decide) dL_law_980 (i + 3) (by omega) (by omega) e3 ?_
      refine v_cV (av := [.int (iI (a1:Nat)), .int (iI (k:Nat)), .int (iI (a3:Nat))]) (st := []) zyX11_root lL_155 h_47 rfl (p_Mroot (d := 10) hM hPL h1 (by omega) h3 (by decide)) dL_law_981 rfl rfl (Nat.le_of_ble_eq_true rfl) (by omega) (by omega) (by omega) (Or.inl (fun _ _ _ q => ZN q)) (fun r9 G2 n9 q9 => ?_)
      obtain ⟨rfl, q9n, hM, fr2⟩ := q9
      have q9n := q9n.symm
      subst q9n
      have hH := hH.fr fr2 (by decide)
      have h_90 := (fr2 90 (by decide)).trans h_90
      obtain ⟨_, _, _, _, _, _, _, _, _, _, _, _, h_47, -⟩ := id hM
      refine v_aload_n dL_law_984 rfl ?_
      refine v_cV (av := []) (st := []) zyX11_thrown lL_111 h_47 rfl (p_thrown (d := 10) hM) dL_law_985 rfl rfl (Nat.le_of_ble_eq_true rfl) (by omega) (by omega) (by omega) (Or.inl (fun _ _ _ q => ZN q)) (fun r9 K1 n9 q9 => ?_)
      obtain ⟨rfl, q9n, q9h⟩ := q9
      have q9n := q9n.symm
      subst q9n
      have q9h := q9h.symm
      subst q9h
      refine v_iload dL_law_988 rfl ?_
      refine w_icmp_same 995 dL_law_990 (by decide) ?_
      refine v_goto 1791 dL_law_995 (by decide) ?_
      refine w_sub (lv2 := [(0, .ref 1000), (1, .ref 0), (2, .ref 47), (3, .ref 90), (4, .int (iI (i:Nat)))]) [1, 2, 3, 4, 5] rfl ?_
      exact kont _ _ _ ⟨wd, zup pt a3 (mrt wd pt a1 k a3), tf, Q, qn, tc, L, _, _, hH, hM, h_90, hPL.up (if_lt (hf_lt (hPL a3 h3).1) (rdR_lt (hPL a3 h3).1)), hbb, htc, hQb.mono (by omega)⟩ (by omega) (by omega)
set_option maxHeartbeats 8000000 in
set_option maxRecDepth 100000 in
theorem c_power {X : zX} {i cells slots N L9 : Nat} {sc : Nat → Int} {h : zH} (hE : zLE X) (hSc : zSc X L9 sc) (hi : i + 6 ≤ L9) (hc : cells + 2 ≤ 601024) (hs : slots + 9 ≤ 7293034) (hN : N ≤ 20000) (hI : LI h N)
    (kont : ∀ (h' : zH) (c' s' : Nat), LI h' (N + 32) → c' ≤ cells + 2 → s' ≤ slots + 9 → zV X PLW cL_law 8 RL (some .boolean) 11 601024 7293034 1791 [(0, .ref 1000), (1, .ref 0), (2, .ref 47), (3, .ref 90), (4, .int (iI (i:Nat)))] [] h' 91 c' s') :
    (zV X (PLW) cL_law 8 RL (some .boolean) 11 601024 7293034 1106 [(0, .ref 1000), (1, .ref 0), (2, .ref 47), (3, .ref 90), (4, .int (iI (i:Nat)))] [] h 91 cells slots) := by
  have hL9 := hSc.l
  obtain ⟨wd, pt, tf, Q, qn, tc, L, th, g, hH, hM, h_90, hPL, hbb, htc, hQb⟩ := id hI
  obtain ⟨p1, e1⟩ : ∃ p, sc (i + 1) = p := ⟨_, rfl⟩
  have r1 := hSc.r (i + 1)
  rw [e1] at r1
  obtain ⟨p2, e2⟩ : ∃ p, sc (i + 2) = p := ⟨_, rfl⟩
  have r2 := hSc.r (i + 2)
  rw [e2] at r2
  obtain ⟨p3, e3⟩ : ∃ p, sc (i + 3) = p := ⟨_, rfl⟩
  have r3 := hSc.r (i + 3)
  rw [e3] at r3
  cases hx : (isP p1 && isP p3) with
  | false =>
    refine v_aload_n dL_law_1106 rfl ?_
    refine v_aload_n dL_law_1107 rfl ?_
    refine v_iload dL_law_1108 rfl ?_
    refine v_iconst (iI 1) dL_law_1110 rfl ?_
    refine w_iadd dL_law_1111 ?_
    refine w_sld hSc (by decide) dL_law_1112 (i + 1) (by omega) (by omega) e1 ?_
    refine v_aload_n dL_law_1113 rfl ?_
    refine v_iload dL_law_1114 rfl ?_
    refine v_iconst (iI 2) dL_law_1116 rfl ?_
    refine w_iadd dL_law_1117 ?_
    refine w_sld hSc (by decide) dL_law_1118 (i + 2) (by omega) (by omega) e2 ?_
    refine v_aload_n dL_law_1119 rfl ?_
    refine v_iload dL_law_1120 rfl ?_
    refine v_iconst (iI 3) dL_law_1122 rfl ?_
    refine w_iadd dL_law_1123 ?_
    refine w_sld hSc (by decide) dL_law_1124 (i + 3) (by omega) (by omega) e3 ?_
    refine v_cSW (av := [.ref 0, .int (iI p1), .int (iI p2), .int (iI p3)]) (st := []) hE zyL_power lL_163 (q_powerI hH r1 r2 r3 hx) dL_law_1125 rfl rfl (Nat.le_of_ble_eq_true rfl) (by omega) (by omega) (by omega) (Or.inl (fun _ _ _ q => ZN q)) (fun r9 G1 n9 q9 => ?_)
    obtain ⟨rfl, q9n, hH, fr1⟩ := q9
    have q9n := q9n.symm
    subst q9n
    have hM := hM.fr fr1 (by decide)
    have h_90 := (fr1 90 (by decide)).trans h_90
    obtain ⟨_, _, _, _, _, _, _, _, _, _, _, _, h_47, -⟩ := id hM
    refine v_istore (i := 5) (lv' := [(5, .int (iI 1)), (0, .ref 1000), (1, .ref 0), (2, .ref 47), (3, .ref 90), (4, .int (iI (i:Nat)))]) dL_law_1128 (by decide) rfl ?_
    refine v_aload_n dL_law_1130 rfl ?_
    refine v_aload_n dL_law_1131 rfl ?_
    refine v_iload dL_law_1132 rfl ?_
    refine v_iconst (iI 1) dL_law_1134 rfl ?_
    refine w_iadd dL_law_1135 ?_
    refine w_sld hSc (by decide) dL_law_1136 (i + 1) (by omega) (by omega) e1 ?_
    refine v_aload_n dL_law_1137 rfl ?_
    refine v_iload dL_law_1138 rfl ?_
    refine v_iconst (iI 2) dL_law_1140 rfl ?_
    refine w_iadd dL_law_1141 ?_
    refine w_sld hSc (by decide) dL_law_1142 (i + 2) (by omega) (by omega) e2 ?_
    refine v_aload_n dL_law_1143 rfl ?_
    refine v_iload dL_law_1144 rfl ?_
    refine v_iconst (iI 3) dL_law_1146 rfl ?_
    refine w_iadd dL_law_1147 ?_
    refine w_sld hSc (by decide) dL_law_1148 (i + 3) (by omega) (by omega) e3 ?_
    refine v_cV (av := [.int (iI p1), .int (iI p2), .int (iI p3)]) (st := []) zyX11_power lL_165 h_47 rfl (p_Mpowerx (d := 10) hM r1 r2 r3 (by rw [hx]; rfl) (by decide)) dL_law_1149 rfl rfl (Nat.le_of_ble_eq_true rfl) (by omega) (by omega) (by omega) (Or.inl (fun _ _ _ q => ZN q)) (fun r9 G2 n9 q9 => ?_)
    obtain ⟨rfl, q9n, hM, fr2⟩ := q9
    have q9n := q9n.symm
    subst q9n
    have hH := hH.fr fr2 (by decide)
    have h_90 := (fr2 90 (by decide)).trans h_90
    rw [show thr (isP p1 && isP p3) (decide (-16 ≤ p2 ∧ p2 ≤ 16)) = 1 from by rw [hx]; rfl] at hM
    obtain ⟨_, _, _, _, _, _, _, _, _, _, _, _, h_47, -⟩ := id hM
    refine v_aload_n dL_law_1152 rfl ?_
    refine v_cV (av := []) (st := []) zyX11_thrown lL_111 h_47 rfl (p_thrown (d := 10) hM) dL_law_1153 rfl rfl (Nat.le_of_ble_eq_true rfl) (by omega) (by omega) (by omega) (Or.inl (fun _ _ _ q => ZN q)) (fun r9 K1 n9 q9 => ?_)
    obtain ⟨rfl, q9n, q9h⟩ := q9
    have q9n := q9n.symm
    subst q9n
    have q9h := q9h.symm
    subst q9h
    refine v_iload dL_law_1156 rfl ?_
    refine w_icmp_same 1163 dL_law_1158 (by decide) ?_
    refine v_goto 1791 dL_law_1163 (by decide) ?_
    refine w_sub (lv2 := [(0, .ref 1000), (1, .ref 0), (2, .ref 47), (3, .ref 90), (4, .int (iI (i:Nat)))]) [1, 2, 3, 4, 5] rfl ?_
    exact kont _ _ _ ⟨wd, pt, tf, Q, qn, tc, L, _, _, hH, hM, h_90, hPL, hbb, htc, hQb.mono (by omega)⟩ (by omega) (by omega)
  | true =>
    cases hy : decide (-16 ≤ p2 ∧ p2 ≤ 16) with
    | false =>
      have hx2 := hx
      rw [Bool.and_eq_true] at hx2
      refine v_aload_n dL_law_1106 rfl ?_
      refine v_aload_n dL_law_1107 rfl ?_
      refine v_iload dL_law_1108 rfl ?_
      refine v_iconst (iI 1) dL_law_1110 rfl ?_
      refine w_iadd dL_law_1111 ?_
      refine w_sld hSc (by decide) dL_law_1112 (i + 1) (by omega) (by omega) e1 ?_
      refine v_aload_n dL_law_1113 rfl ?_
      refine v_iload dL_law_1114 rfl ?_
      refine v_iconst (iI 2) dL_law_1116 rfl ?_
      refine w_iadd dL_law_1117 ?_
      refine w_sld hSc (by decide) dL_law_1118 (i + 2) (by omega) (by omega) e2 ?_
      refine v_aload_n dL_law_1119 rfl ?_
      refine v_iload dL_law_1120 rfl ?_
      refine v_iconst (iI 3) dL_law_1122 rfl ?_
      refine w_iadd dL_law_1123 ?_
      refine w_sld hSc (by decide) dL_law_1124 (i + 3) (by omega) (by omega) e3 ?_
      refine v_cSW (av := [.ref 0, .int (iI p1), .int (iI p2), .int (iI p3)]) (st := []) hE zyL_power lL_163 (q_powerA hH r1 r2 r3 hx2.1 hx2.2 (of_decide_eq_false hy)) dL_law_1125 rfl rfl (Nat.le_of_ble_eq_true rfl) (by omega) (by omega) (by omega) (Or.inl (fun _ _ _ q => ZN q)) (fun r9 G1 n9 q9 => ?_)
      obtain ⟨rfl, q9n, hH, fr1⟩ := q9
      have q9n := q9n.symm
      subst q9n
      have hM := hM.fr fr1 (by decide)
      have h_90 := (fr1 90 (by decide)).trans h_90
      obtain ⟨_, _, _, _, _, _, _, _, _, _, _, _, h_47, -⟩ := id hM
      refine v_istore (i := 5) (lv' := [(5, .int (iI 2)), (0, .ref 1000), (1, .ref 0), (2, .ref 47), (3, .ref 90), (4, .int (iI (i:Nat)))]) dL_law_1128 (by decide) rfl ?_
      refine v_aload_n dL_law_1130 rfl ?_
      refine v_aload_n dL_law_1131 rfl ?_
      refine v_iload dL_law_1132 rfl ?_
      refine v_iconst (iI 1) dL_law_1134 rfl ?_
      refine w_iadd dL_law_1135 ?_
      refine w_sld hSc (by decide) dL_law_1136 (i + 1) (by omega) (by omega) e1 ?_
      refine v_aload_n dL_law_1137 rfl ?_
      refine v_iload dL_law_1138 rfl ?_
      refine v_iconst (iI 2) dL_law_1140 rfl ?_
      refine w_iadd dL_law_1141 ?_
      refine w_sld hSc (by decide) dL_law_1142 (i + 2) (by omega) (by omega) e2 ?_
      refine v_aload_n dL_law_1143 rfl ?_
      refine v_iload dL_law_1144 rfl ?_
      refine v_iconst (iI 3) dL_law_1146 rfl ?_
      refine w_iadd dL_law_1147 ?_
      refine w_sld hSc (by decide) dL_law_1148 (i + 3) (by omega) (by omega) e3 ?_
      refine v_cV (av := [.int (iI p1), .int (iI p2), .int (iI p3)]) (st := []) zyX11_power lL_165 h_47 rfl (p_Mpowerx (d := 10) hM r1 r2 r3 (by rw [hx, hy]; rfl) (by decide)) dL_law_1149 rfl rfl (Nat.le_of_ble_eq_true rfl) (by omega) (by omega) (by omega) (Or.inl (fun _ _ _ q => ZN q)) (fun r9 G2 n9 q9 => ?_)
      obtain ⟨rfl, q9n, hM, fr2⟩ := q9
      have q9n := q9n.symm
      subst q9n
      have hH := hH.fr fr2 (by decide)
      have h_90 := (fr2 90 (by decide)).trans h_90
      rw [show thr (isP p1 && isP p3) (decide (-16 ≤ p2 ∧ p2 ≤ 16)) = 2 from by rw [hx, hy]; rfl] at hM
      obtain ⟨_, _, _, _, _, _, _, _, _, _, _, _, h_47, -⟩ := id hM
      refine v_aload_n dL_law_1152 rfl ?_
      refine v_cV (av := []) (st := []) zyX11_thrown lL_111 h_47 rfl (p_thrown (d := 10) hM) dL_law_1153 rfl rfl (Nat.le_of_ble_eq_true rfl) (by omega) (by omega) (by omega) (Or.inl (fun _ _ _ q => ZN q)) (fun r9 K1 n9 q9 => ?_)
      obtain ⟨rfl, q9n, q9h⟩ := q9
      have q9n := q9n.symm
      subst q9n
      have q9h := q9h.symm
      subst q9h
      refine v_iload dL_law_1156 rfl ?_
      refine w_icmp_same 1163 dL_law_1158 (by decide) ?_
      refine v_goto 1791 dL_law_1163 (by decide) ?_
      refine w_sub (lv2 := [(0, .ref 1000), (1, .ref 0), (2, .ref 47), (3, .ref 90), (4, .int (iI (i:Nat)))]) [1, 2, 3, 4, 5] rfl ?_
      exact kont _ _ _ ⟨wd, pt, tf, Q, qn, tc, L, _, _, hH, hM, h_90, hPL, hbb, htc, hQb.mono (by omega)⟩ (by omega) (by omega)
    | true =>
      rw [Bool.and_eq_true] at hx
      have hy := of_decide_eq_true hy
      obtain ⟨a1, q1, h1⟩ := n_P hx.1
      subst q1
      obtain ⟨a3, q3, h3⟩ := n_P hx.2
      subst q3
      refine v_aload_n dL_law_1106 rfl ?_
      refine v_aload_n dL_law_1107 rfl ?_
      refine v_iload dL_law_1108 rfl ?_
      refine v_iconst (iI 1) dL_law_1110 rfl ?_
      refine w_iadd dL_law_1111 ?_
      refine w_sld hSc (by decide) dL_law_1112 (i + 1) (by omega) (by omega) e1 ?_
      refine v_aload_n dL_law_1113 rfl ?_
      refine v_iload dL_law_1114 rfl ?_
      refine v_iconst (iI 2) dL_law_1116 rfl ?_
      refine w_iadd dL_law_1117 ?_
      refine w_sld hSc (by decide) dL_law_1118 (i + 2) (by omega) (by omega) e2 ?_
      refine v_aload_n dL_law_1119 rfl ?_
      refine v_iload dL_law_1120 rfl ?_
      refine v_iconst (iI 3) dL_law_1122 rfl ?_
      refine w_iadd dL_law_1123 ?_
      refine w_sld hSc (by decide) dL_law_1124 (i + 3) (by omega) (by omega) e3 ?_
      refine v_cSW (av := [.ref 0, .int (iI (a1:Nat)), .int (iI p2), .int (iI (a3:Nat))]) (st := []) hE zyL_power lL_163 (q_power hH hPL h1 hy h3) dL_law_1125 rfl rfl (Nat.le_of_ble_eq_true rfl) (by omega) (by omega) (by omega) (Or.inl (fun _ _ _ q => ZN q)) (fun r9 G1 n9 q9 => ?_)
      obtain ⟨rfl, q9n, hH, fr1⟩ := q9
      have q9n := q9n.symm
      subst q9n
      have hM := hM.fr fr1 (by decide)
      have h_90 := (fr1 90 (by decide)).trans h_90
      obtain ⟨_, _, _, _, _, _, _, _, _, _, _, _, h_47, -⟩ := id hM
      refine v_istore (i := 5) (lv' := [(5, .int (iI 0)), (0, .ref 1000), (1, .ref 0), (2, .ref 47), (3, .ref 90), (4, .int (iI (i:Nat)))]) dL_law_1128 (by decide) rfl ?_
      refine v_aload_n dL_law_1130 rfl ?_
      refine v_aload_n dL_law_1131 rfl ?_
      refine v_iload dL_law_1132 rfl ?_
      refine v_iconst (iI 1) dL_law_1134 rfl ?_
      refine w_iadd dL_law_1135 ?_
      refine w_sld hSc (by decide) dL_law_1136 (i + 1) (by omega) (by omega) e1 ?_
      refine v_aload_n dL_law_1137 rfl ?_
      refine v_iload dL_law_1138 rfl ?_
      refine v_iconst (iI 2) dL_law_1140 rfl ?_
      refine w_iadd dL_law_1141 ?_
      refine w_sld hSc (by decide) dL_law_1142 (i + 2) (by omega) (by omega) e2 ?_
      refine v_aload_n dL_law_1143 rfl ?_
      refine v_iload dL_law_1144 rfl ?_
      refine v_iconst (iI 3) dL_law_1146 rfl ?_
      refine w_iadd dL_law_1147 ?_
      refine w_sld hSc (by decide) dL_law_1148 (i + 3) (by omega) (by omega) e3 ?_
      refine v_cV (av := [.int (iI (a1:Nat)), .int (iI p2), .int (iI (a3:Nat))]) (st := []) zyX11_power lL_165 h_47 rfl (p_Mpower (d := 10) hM hPL h1 hy h3 (by decide)) dL_law_1149 rfl rfl (Nat.le_of_ble_eq_true rfl) (by omega) (by omega) (by omega) (Or.inl (fun _ _ _ q => ZN q)) (fun r9 G2 n9 q9 => ?_)
      obtain ⟨rfl, q9n, hM, fr2⟩ := q9
      have q9n := q9n.symm
      subst q9n
      have hH := hH.fr fr2 (by decide)
      have h_90 := (fr2 90 (by decide)).trans h_90
      obtain ⟨_, _, _, _, _, _, _, _, _, _, _, _, h_47, -⟩ := id hM
      refine v_aload_n dL_law_1152 rfl ?_
      refine v_cV (av := []) (st := []) zyX11_thrown lL_111 h_47 rfl (p_thrown (d := 10) hM) dL_law_1153 rfl rfl (Nat.le_of_ble_eq_true rfl) (by omega) (by omega) (by omega) (Or.inl (fun _ _ _ q => ZN q)) (fun r9 K1 n9 q9 => ?_)
      obtain ⟨rfl, q9n, q9h⟩ := q9
      have q9n := q9n.symm
      subst q9n
      have q9h := q9h.symm
      subst q9h
      refine v_iload dL_law_1156 rfl ?_
      refine w_icmp_same 1163 dL_law_1158 (by decide) ?_
      refine v_goto 1791 dL_law_1163 (by decide) ?_
      refine w_sub (lv2 := [(0, .ref 1000), (1, .ref 0), (2, .ref 47), (3, .ref 90), (4, .int (iI (i:Nat)))]) [1, 2, 3, 4, 5] rfl ?_
      exact kont _ _ _ ⟨wd, zup pt a3 (mpw wd pt a1 p2 a3), tf, Q, qn, tc, L, _, _, hH, hM, h_90, hPL.up (if_lt (hf_lt (hPL a3 h3).1) (rdR_lt (hPL a3 h3).1)), hbb, htc, hQb.mono (by omega)⟩ (by omega) (by omega)
set_option maxHeartbeats 8000000 in
set_option maxRecDepth 100000 in
theorem c_under {X : zX} {i cells slots N L9 : Nat} {sc : Nat → Int} {h : zH} (hE : zLE X) (hSc : zSc X L9 sc) (hi : i + 6 ≤ L9) (hc : cells + 2 ≤ 601024) (hs : slots + 9 ≤ 7293034) (hN : N ≤ 20000) (hI : LI h N)
    (kont : ∀ (h' : zH) (c' s' : Nat), LI h' (N + 32) → c' ≤ cells + 2 → s' ≤ slots + 9 → zV X PLW cL_law 8 RL (some .boolean) 11 601024 7293034 1791 [(0, .ref 1000), (1, .ref 0), (2, .ref 47), (3, .ref 90), (4, .int (iI (i:Nat)))] [] h' 91 c' s') :
    (zV X (PLW) cL_law 8 RL (some .boolean) 11 601024 7293034 998 [(0, .ref 1000), (1, .ref 0), (2, .ref 47), (3, .ref 90), (4, .int (iI (i:Nat)))] [] h 91 cells slots) := by
  have hL9 := hSc.l
  obtain ⟨wd, pt, tf, Q, qn, tc, L, th, g, hH, hM, h_90, hPL, hbb, htc, hQb⟩ := id hI
  obtain ⟨p1, e1⟩ : ∃ p, sc (i + 1) = p := ⟨_, rfl⟩
  have r1 := hSc.r (i + 1)
  rw [e1] at r1
  obtain ⟨p2, e2⟩ : ∃ p, sc (i + 2) = p := ⟨_, rfl⟩
  have r2 := hSc.r (i + 2)
  rw [e2] at r2
  cases hx : (isP p1 && isP p2) with
  | false =>
    refine v_aload_n dL_law_998 rfl ?_
    refine v_aload_n dL_law_999 rfl ?_
    refine v_iload dL_law_1000 rfl ?_
    refine v_iconst (iI 1) dL_law_1002 rfl ?_
    refine w_iadd dL_law_1003 ?_
    refine w_sld hSc (by decide) dL_law_1004 (i + 1) (by omega) (by omega) e1 ?_
    refine v_aload_n dL_law_1005 rfl ?_
    refine v_iload dL_law_1006 rfl ?_
    refine v_iconst (iI 2) dL_law_1008 rfl ?_
    refine w_iadd dL_law_1009 ?_
    refine w_sld hSc (by decide) dL_law_1010 (i + 2) (by omega) (by omega) e2 ?_
    refine v_cSW (av := [.ref 0, .int (iI p1), .int (iI p2)]) (st := []) hE zyL_under lL_156 (q_underI hH r1 r2 hx) dL_law_1011 rfl rfl (Nat.le_of_ble_eq_true rfl) (by omega) (by omega) (by omega) (Or.inl (fun _ _ _ q => ZN q)) (fun r9 G1 n9 q9 => ?_)
    obtain ⟨rfl, q9n, hH, fr1⟩ := q9
    have q9n := q9n.symm
    subst q9n
    have hM := hM.fr fr1 (by decide)
    have h_90 := (fr1 90 (by decide)).trans h_90
    obtain ⟨_, _, _, _, _, _, _, _, _, _, _, _, h_47, -⟩ := id hM
    refine v_istore (i := 5) (lv' := [(5, .int (iI 1)), (0, .ref 1000), (1, .ref 0), (2, .ref 47), (3, .ref 90), (4, .int (iI (i:Nat)))]) dL_law_1014 (by decide) rfl ?_
    refine v_aload_n dL_law_1016 rfl ?_
    refine v_aload_n dL_law_1017 rfl ?_
    refine v_iload dL_law_1018 rfl ?_
    refine v_iconst (iI 1) dL_law_1020 rfl ?_
    refine w_iadd dL_law_1021 ?_
    refine w_sld hSc (by decide) dL_law_1022 (i + 1) (by omega) (by omega) e1 ?_
    refine v_aload_n dL_law_1023 rfl ?_
    refine v_iload dL_law_1024 rfl ?_
    refine v_iconst (iI 2) dL_law_1026 rfl ?_
    refine w_iadd dL_law_1027 ?_
    refine w_sld hSc (by decide) dL_law_1028 (i + 2) (by omega) (by omega) e2 ?_
    refine v_cV (av := [.int (iI p1), .int (iI p2)]) (st := []) zyX11_under lL_159 h_47 rfl (p_Munderx (d := 10) hM r1 r2 (by rw [hx]; rfl) (by decide)) dL_law_1029 rfl rfl (Nat.le_of_ble_eq_true rfl) (by omega) (by omega) (by omega) (Or.inl (fun _ _ _ q => ZN q)) (fun r9 G2 n9 q9 => ?_)
    obtain ⟨rfl, q9n, hM, fr2⟩ := q9
    have q9n := q9n.symm
    subst q9n
    have hH := hH.fr fr2 (by decide)
    have h_90 := (fr2 90 (by decide)).trans h_90
    rw [show thr (isP p1 && isP p2) true = 1 from by rw [hx]; rfl] at hM
    obtain ⟨_, _, _, _, _, _, _, _, _, _, _, _, h_47, -⟩ := id hM
    refine v_aload_n dL_law_1032 rfl ?_
    refine v_cV (av := []) (st := []) zyX11_thrown lL_111 h_47 rfl (p_thrown (d := 10) hM) dL_law_1033 rfl rfl (Nat.le_of_ble_eq_true rfl) (by omega) (by omega) (by omega) (Or.inl (fun _ _ _ q => ZN q)) (fun r9 K1 n9 q9 => ?_)
    obtain ⟨rfl, q9n, q9h⟩ := q9
    have q9n := q9n.symm
    subst q9n
    have q9h := q9h.symm
    subst q9h
    refine v_iload dL_law_1036 rfl ?_
    refine w_icmp_same 1043 dL_law_1038 (by decide) ?_
    refine v_goto 1791 dL_law_1043 (by decide) ?_
    refine w_sub (lv2 := [(0, .ref 1000), (1, .ref 0), (2, .ref 47), (3, .ref 90), (4, .int (iI (i:Nat)))]) [1, 2, 3, 4, 5] rfl ?_
    exact kont _ _ _ ⟨wd, pt, tf, Q, qn, tc, L, _, _, hH, hM, h_90, hPL, hbb, htc, hQb.mono (by omega)⟩ (by omega) (by omega)
  | true =>
    rw [Bool.and_eq_true] at hx
    obtain ⟨a1, q1, h1⟩ := n_P hx.1
    subst q1
    obtain ⟨a3, q2, h3⟩ := n_P hx.2
    subst q2
    refine v_aload_n dL_law_998 rfl ?_
    refine v_aload_n dL_law_999 rfl ?_
    refine v_iload dL_law_1000 rfl ?_
    refine v_iconst (iI 1) dL_law_1002 rfl ?_
    refine w_iadd dL_law_1003 ?_
    refine w_sld hSc (by decide) dL_law_1004 (i + 1) (by omega) (by omega) e1 ?_
    refine v_aload_n dL_law_1005 rfl ?_
    refine v_iload dL_law_1006 rfl ?_
    refine v_iconst (iI 2) dL_law_1008 rfl ?_
    refine w_iadd dL_law_1009 ?_
    refine w_sld hSc (by decide) dL_law_1010 (i + 2) (by omega) (by omega) e2 ?_
    refine v_cSW (av := [.ref 0, .int (iI (a1:Nat)), .int (iI (a3:Nat))]) (st := []) hE zyL_under lL_156 (q_under hH hPL h1 h3) dL_law_1011 rfl rfl (Nat.le_of_ble_eq_true rfl) (by omega) (by omega) (by omega) (Or.inl (fun _ _ _ q => ZN q)) (fun r9 G1 n9 q9 => ?_)
    obtain ⟨rfl, q9n, hH, fr1⟩ := q9
    have q9n := q9n.symm
    subst q9n
    have hM := hM.fr fr1 (by decide)
    have h_90 := (fr1 90 (by decide)).trans h_90
    obtain ⟨_, _, _, _, _, _, _, _, _, _, _, _, h_47, -⟩ := id hM
    refine v_istore (i := 5) (lv' := [(5, .int (iI 0)), (0, .ref 1000), (1, .ref 0), (2, .ref 47), (3, .ref 90), (4, .int (iI (i:Nat)))]) dL_law_1014 (by decide) rfl ?_
    refine v_aload_n dL_law_1016 rfl ?_
    refine v_aload_n dL_law_1017 rfl ?_
    refine v_iload dL_law_1018 rfl ?_
    refine v_iconst (iI 1) dL_law_1020 rfl ?_
    refine w_iadd dL_law_1021 ?_
    refine w_sld hSc (by decide) dL_law_1022 (i + 1) (by omega) (by omega) e1 ?_
    refine v_aload_n dL_law_1023 rfl ?_
    refine v_iload dL_law_1024 rfl ?_
    refine v_iconst (iI 2) dL_law_1026 rfl ?_
    refine w_iadd dL_law_1027 ?_
    refine w_sld hSc (by decide) dL_law_1028 (i + 2) (by omega) (by omega) e2 ?_
    refine v_cV (av := [.int (iI (a1:Nat)), .int (iI (a3:Nat))]) (st := []) zyX11_under lL_159 h_47 rfl (p_Munder (d := 10) hM hPL h1 h3 (by decide)) dL_law_1029 rfl rfl (Nat.le_of_ble_eq_true rfl) (by omega) (by omega) (by omega) (Or.inl (fun _ _ _ q => ZN q)) (fun r9 G2 n9 q9 => ?_)
    obtain ⟨rfl, q9n, hM, fr2⟩ := q9
    have q9n := q9n.symm
    subst q9n
    have hH := hH.fr fr2 (by decide)
    have h_90 := (fr2 90 (by decide)).trans h_90
    obtain ⟨_, _, _, _, _, _, _, _, _, _, _, _, h_47, -⟩ := id hM
    refine v_aload_n dL_law_1032 rfl ?_
    refine v_cV (av := []) (st := []) zyX11_thrown lL_111 h_47 rfl (p_thrown (d := 10) hM) dL_law_1033 rfl rfl (Nat.le_of_ble_eq_true rfl) (by omega) (by omega) (by omega) (Or.inl (fun _ _ _ q => ZN q)) (fun r9 K1 n9 q9 => ?_)
    obtain ⟨rfl, q9n, q9h⟩ := q9
    have q9n := q9n.symm
    subst q9n
    have q9h := q9h.symm
    subst q9h
    refine v_iload dL_law_1036 rfl ?_
    refine w_icmp_same 1043 dL_law_1038 (by decide) ?_
    refine v_goto 1791 dL_law_1043 (by decide) ?_
    refine w_sub (lv2 := [(0, .ref 1000), (1, .ref 0), (2, .ref 47), (3, .ref 90), (4, .int (iI (i:Nat)))]) [1, 2, 3, 4, 5] rfl ?_
    exact kont _ _ _ ⟨wd, zup pt a3 (mun wd pt a1 a3), tf, Q, qn, tc, L, _, _, hH, hM, h_90, hPL.up (if_lt (hf_lt (hPL a3 h3).1) (rdR_lt (hPL a3 h3).1)), hbb, htc, hQb.mono (by omega)⟩ (by omega) (by omega)
set_option maxHeartbeats 8000000 in
set_option maxRecDepth 100000 in
theorem c_turn {X : zX} {i cells slots N L9 : Nat} {sc : Nat → Int} {h : zH} (hE : zLE X) (hSc : zSc X L9 sc) (hi : i + 6 ≤ L9) (hc : cells + 2 ≤ 601024) (hs : slots + 9 ≤ 7293034) (hN : N ≤ 20000) (hI : LI h N)
    (kont : ∀ (h' : zH) (c' s' : Nat), LI h' (N + 32) → c' ≤ cells + 2 → s' ≤ slots + 9 → zV X PLW cL_law 8 RL (some .boolean) 11 601024 7293034 1791 [(0, .ref 1000), (1, .ref 0), (2, .ref 47), (3, .ref 90), (4, .int (iI (i:Nat)))] [] h' 91 c' s') :
    (zV X (PLW) cL_law 8 RL (some .boolean) 11 601024 7293034 1166 [(0, .ref 1000), (1, .ref 0), (2, .ref 47), (3, .ref 90), (4, .int (iI (i:Nat)))] [] h 91 cells slots) := by
  have hL9 := hSc.l
  obtain ⟨wd, pt, tf, Q, qn, tc, L, th, g, hH, hM, h_90, hPL, hbb, htc, hQb⟩ := id hI
  obtain ⟨p1, e1⟩ : ∃ p, sc (i + 1) = p := ⟨_, rfl⟩
  have r1 := hSc.r (i + 1)
  rw [e1] at r1
  obtain ⟨p2, e2⟩ : ∃ p, sc (i + 2) = p := ⟨_, rfl⟩
  have r2 := hSc.r (i + 2)
  rw [e2] at r2
  cases hx : isP p1 with
  | false =>
    refine v_aload_n dL_law_1166 rfl ?_
    refine v_aload_n dL_law_1167 rfl ?_
    refine v_iload dL_law_1168 rfl ?_
    refine v_iconst (iI 1) dL_law_1170 rfl ?_
    refine w_iadd dL_law_1171 ?_
    refine w_sld hSc (by decide) dL_law_1172 (i + 1) (by omega) (by omega) e1 ?_
    refine v_aload_n dL_law_1173 rfl ?_
    refine v_iload dL_law_1174 rfl ?_
    refine v_iconst (iI 2) dL_law_1176 rfl ?_
    refine w_iadd dL_law_1177 ?_
    refine w_sld hSc (by decide) dL_law_1178 (i + 2) (by omega) (by omega) e2 ?_
    refine v_cSW (av := [.ref 0, .int (iI p1), .int (iI p2)]) (st := []) hE zyL_turn lL_166 (q_turnI hH r1 r2 hx) dL_law_1179 rfl rfl (Nat.le_of_ble_eq_true rfl) (by omega) (by omega) (by omega) (Or.inl (fun _ _ _ q => ZN q)) (fun r9 G1 n9 q9 => ?_)
    obtain ⟨rfl, q9n, hH, fr1⟩ := q9
    have q9n := q9n.symm
    subst q9n
    have hM := hM.fr fr1 (by decide)
    have h_90 := (fr1 90 (by decide)).trans h_90
    obtain ⟨_, _, _, _, _, _, _, _, _, _, _, _, h_47, -⟩ := id hM
    refine v_istore (i := 5) (lv' := [(5, .int (iI 1)), (0, .ref 1000), (1, .ref 0), (2, .ref 47), (3, .ref 90), (4, .int (iI (i:Nat)))]) dL_law_1182 (by decide) rfl ?_
    refine v_aload_n dL_law_1184 rfl ?_
    refine v_aload_n dL_law_1185 rfl ?_
    refine v_iload dL_law_1186 rfl ?_
    refine v_iconst (iI 1) dL_law_1188 rfl ?_
    refine w_iadd dL_law_1189 ?_
    refine w_sld hSc (by decide) dL_law_1190 (i + 1) (by omega) (by omega) e1 ?_
    refine v_aload_n dL_law_1191 rfl ?_
    refine v_iload dL_law_1192 rfl ?_
    refine v_iconst (iI 2) dL_law_1194 rfl ?_
    refine w_iadd dL_law_1195 ?_
    refine w_sld hSc (by decide) dL_law_1196 (i + 2) (by omega) (by omega) e2 ?_
    refine v_cV (av := [.int (iI p1), .int (iI p2)]) (st := []) zyX11_turn lL_168 h_47 rfl (p_Mturnx (d := 10) hM r1 r2 (by rw [hx]; rfl) (by decide)) dL_law_1197 rfl rfl (Nat.le_of_ble_eq_true rfl) (by omega) (by omega) (by omega) (Or.inl (fun _ _ _ q => ZN q)) (fun r9 G2 n9 q9 => ?_)
    obtain ⟨rfl, q9n, hM, fr2⟩ := q9
    have q9n := q9n.symm
    subst q9n
    have hH := hH.fr fr2 (by decide)
    have h_90 := (fr2 90 (by decide)).trans h_90
    rw [show thr (isP p1) (decide (0 ≤ p2 ∧ p2 ≤ 7)) = 1 from by rw [hx]; rfl] at hM
    obtain ⟨_, _, _, _, _, _, _, _, _, _, _, _, h_47, -⟩ := id hM
    refine v_aload_n dL_law_1200 rfl ?_
    refine v_cV (av := []) (st := []) zyX11_thrown lL_111 h_47 rfl (p_thrown (d := 10) hM) dL_law_1201 rfl rfl (Nat.le_of_ble_eq_true rfl) (by omega) (by omega) (by omega) (Or.inl (fun _ _ _ q => ZN q)) (fun r9 K1 n9 q9 => ?_)
    obtain ⟨rfl, q9n, q9h⟩ := q9
    have q9n := q9n.symm
    subst q9n
    have q9h := q9h.symm
    subst q9h
    refine v_iload dL_law_1204 rfl ?_
    refine w_icmp_same 1211 dL_law_1206 (by decide) ?_
    refine v_goto 1791 dL_law_1211 (by decide) ?_
    refine w_sub (lv2 := [(0, .ref 1000), (1, .ref 0), (2, .ref 47), (3, .ref 90), (4, .int (iI (i:Nat)))]) [1, 2, 3, 4, 5] rfl ?_
    exact kont _ _ _ ⟨wd, pt, tf, Q, qn, tc, L, _, _, hH, hM, h_90, hPL, hbb, htc, hQb.mono (by omega)⟩ (by omega) (by omega)
  | true =>
    cases hy : decide (0 ≤ p2 ∧ p2 ≤ 7) with
    | false =>
      refine v_aload_n dL_law_1166 rfl ?_
      refine v_aload_n dL_law_1167 rfl ?_
      refine v_iload dL_law_1168 rfl ?_
      refine v_iconst (iI 1) dL_law_1170 rfl ?_
      refine w_iadd dL_law_1171 ?_
      refine w_sld hSc (by decide) dL_law_1172 (i + 1) (by omega) (by omega) e1 ?_
      refine v_aload_n dL_law_1173 rfl ?_
      refine v_iload dL_law_1174 rfl ?_
      refine v_iconst (iI 2) dL_law_1176 rfl ?_
      refine w_iadd dL_law_1177 ?_
      refine w_sld hSc (by decide) dL_law_1178 (i + 2) (by omega) (by omega) e2 ?_
      refine v_cSW (av := [.ref 0, .int (iI p1), .int (iI p2)]) (st := []) hE zyL_turn lL_166 (q_turnA hH r1 r2 hx (of_decide_eq_false hy)) dL_law_1179 rfl rfl (Nat.le_of_ble_eq_true rfl) (by omega) (by omega) (by omega) (Or.inl (fun _ _ _ q => ZN q)) (fun r9 G1 n9 q9 => ?_)
      obtain ⟨rfl, q9n, hH, fr1⟩ := q9
      have q9n := q9n.symm
      subst q9n
      have hM := hM.fr fr1 (by decide)
      have h_90 := (fr1 90 (by decide)).trans h_90
      obtain ⟨_, _, _, _, _, _, _, _, _, _, _, _, h_47, -⟩ := id hM
      refine v_istore (i := 5) (lv' := [(5, .int (iI 2)), (0, .ref 1000), (1, .ref 0), (2, .ref 47), (3, .ref 90), (4, .int (iI (i:Nat)))]) dL_law_1182 (by decide) rfl ?_
      refine v_aload_n dL_law_1184 rfl ?_
      refine v_aload_n dL_law_1185 rfl ?_
      refine v_iload dL_law_1186 rfl ?_
      refine v_iconst (iI 1) dL_law_1188 rfl ?_
      refine w_iadd dL_law_1189 ?_
      refine w_sld hSc (by decide) dL_law_1190 (i + 1) (by omega) (by omega) e1 ?_
      refine v_aload_n dL_law_1191 rfl ?_
      refine v_iload dL_law_1192 rfl ?_
      refine v_iconst (iI 2) dL_law_1194 rfl ?_
      refine w_iadd dL_law_1195 ?_
      refine w_sld hSc (by decide) dL_law_1196 (i + 2) (by omega) (by omega) e2 ?_
      refine v_cV (av := [.int (iI p1), .int (iI p2)]) (st := []) zyX11_turn lL_168 h_47 rfl (p_Mturnx (d := 10) hM r1 r2 (by rw [hx, hy]; rfl) (by decide)) dL_law_1197 rfl rfl (Nat.le_of_ble_eq_true rfl) (by omega) (by omega) (by omega) (Or.inl (fun _ _ _ q => ZN q)) (fun r9 G2 n9 q9 => ?_)
      obtain ⟨rfl, q9n, hM, fr2⟩ := q9
      have q9n := q9n.symm
      subst q9n
      have hH := hH.fr fr2 (by decide)
      have h_90 := (fr2 90 (by decide)).trans h_90
      rw [show thr (isP p1) (decide (0 ≤ p2 ∧ p2 ≤ 7)) = 2 from by rw [hx, hy]; rfl] at hM
      obtain ⟨_, _, _, _, _, _, _, _, _, _, _, _, h_47, -⟩ := id hM
      refine v_aload_n dL_law_1200 rfl ?_
      refine v_cV (av := []) (st := []) zyX11_thrown lL_111 h_47 rfl (p_thrown (d := 10) hM) dL_law_1201 rfl rfl (Nat.le_of_ble_eq_true rfl) (by omega) (by omega) (by omega) (Or.inl (fun _ _ _ q => ZN q)) (fun r9 K1 n9 q9 => ?_)
      obtain ⟨rfl, q9n, q9h⟩ := q9
      have q9n := q9n.symm
      subst q9n
      have q9h := q9h.symm
      subst q9h
      refine v_iload dL_law_1204 rfl ?_
      refine w_icmp_same 1211 dL_law_1206 (by decide) ?_
      refine v_goto 1791 dL_law_1211 (by decide) ?_
      refine w_sub (lv2 := [(0, .ref 1000), (1, .ref 0), (2, .ref 47), (3, .ref 90), (4, .int (iI (i:Nat)))]) [1, 2, 3, 4, 5] rfl ?_
      exact kont _ _ _ ⟨wd, pt, tf, Q, qn, tc, L, _, _, hH, hM, h_90, hPL, hbb, htc, hQb.mono (by omega)⟩ (by omega) (by omega)
    | true =>
      have hy := of_decide_eq_true hy
      obtain ⟨a3, q1, h3⟩ := n_P hx
      subst q1
      obtain ⟨m, q2⟩ := n_n (p := p2) (by omega)
      subst q2
      refine v_aload_n dL_law_1166 rfl ?_
      refine v_aload_n dL_law_1167 rfl ?_
      refine v_iload dL_law_1168 rfl ?_
      refine v_iconst (iI 1) dL_law_1170 rfl ?_
      refine w_iadd dL_law_1171 ?_
      refine w_sld hSc (by decide) dL_law_1172 (i + 1) (by omega) (by omega) e1 ?_
      refine v_aload_n dL_law_1173 rfl ?_
      refine v_iload dL_law_1174 rfl ?_
      refine v_iconst (iI 2) dL_law_1176 rfl ?_
      refine w_iadd dL_law_1177 ?_
      refine w_sld hSc (by decide) dL_law_1178 (i + 2) (by omega) (by omega) e2 ?_
      refine v_cSW (av := [.ref 0, .int (iI (a3:Nat)), .int (iI (m:Nat))]) (st := []) hE zyL_turn lL_166 (q_turn hH hPL h3 (by omega)) dL_law_1179 rfl rfl (Nat.le_of_ble_eq_true rfl) (by omega) (by omega) (by omega) (Or.inl (fun _ _ _ q => ZN q)) (fun r9 G1 n9 q9 => ?_)
      obtain ⟨rfl, q9n, hH, fr1⟩ := q9
      have q9n := q9n.symm
      subst q9n
      have hM := hM.fr fr1 (by decide)
      have h_90 := (fr1 90 (by decide)).trans h_90
      obtain ⟨_, _, _, _, _, _, _, _, _, _, _, _, h_47, -⟩ := id hM
      refine v_istore (i := 5) (lv' := [(5, .int (iI 0)), (0, .ref 1000), (1, .ref 0), (2, .ref 47), (3, .ref 90), (4, .int (iI (i:Nat)))]) dL_law_1182 (by decide) rfl ?_
      refine v_aload_n dL_law_1184 rfl ?_
      refine v_aload_n dL_law_1185 rfl ?_
      refine v_iload dL_law_1186 rfl ?_
      refine v_iconst (iI 1) dL_law_1188 rfl ?_
      refine w_iadd dL_law_1189 ?_
      refine w_sld hSc (by decide) dL_law_1190 (i + 1) (by omega) (by omega) e1 ?_
      refine v_aload_n dL_law_1191 rfl ?_
      refine v_iload dL_law_1192 rfl ?_
      refine v_iconst (iI 2) dL_law_1194 rfl ?_
      refine w_iadd dL_law_1195 ?_
      refine w_sld hSc (by decide) dL_law_1196 (i + 2) (by omega) (by omega) e2 ?_
      refine v_cV (av := [.int (iI (a3:Nat)), .int (iI (m:Nat))]) (st := []) zyX11_turn lL_168 h_47 rfl (p_Mturn (d := 10) hM hPL h3 (by omega) (by decide)) dL_law_1197 rfl rfl (Nat.le_of_ble_eq_true rfl) (by omega) (by omega) (by omega) (Or.inl (fun _ _ _ q => ZN q)) (fun r9 G2 n9 q9 => ?_)
      obtain ⟨rfl, q9n, hM, fr2⟩ := q9
      have q9n := q9n.symm
      subst q9n
      have hH := hH.fr fr2 (by decide)
      have h_90 := (fr2 90 (by decide)).trans h_90
      obtain ⟨_, _, _, _, _, _, _, _, _, _, _, _, h_47, -⟩ := id hM
      refine v_aload_n dL_law_1200 rfl ?_
      refine v_cV (av := []) (st := []) zyX11_thrown lL_111 h_47 rfl (p_thrown (d := 10) hM) dL_law_1201 rfl rfl (Nat.le_of_ble_eq_true rfl) (by omega) (by omega) (by omega) (Or.inl (fun _ _ _ q => ZN q)) (fun r9 K1 n9 q9 => ?_)
      obtain ⟨rfl, q9n, q9h⟩ := q9
      have q9n := q9n.symm
      subst q9n
      have q9h := q9h.symm
      subst q9h
      refine v_iload dL_law_1204 rfl ?_
      refine w_icmp_same 1211 dL_law_1206 (by decide) ?_
      refine v_goto 1791 dL_law_1211 (by decide) ?_
      refine w_sub (lv2 := [(0, .ref 1000), (1, .ref 0), (2, .ref 47), (3, .ref 90), (4, .int (iI (i:Nat)))]) [1, 2, 3, 4, 5] rfl ?_
      exact kont _ _ _ ⟨wd, zup pt a3 (mtn (wd a3) (pt a3) m), tf, Q, qn, tc, L, _, _, hH, hM, h_90, hPL.up (mtn_lt (hPL a3 h3).1 (hPL a3 h3).2.2), hbb, htc, hQb.mono (by omega)⟩ (by omega) (by omega)
set_option maxHeartbeats 8000000 in
set_option maxRecDepth 100000 in
theorem c_clear {X : zX} {i cells slots N L9 : Nat} {sc : Nat → Int} {h : zH} (hE : zLE X) (hSc : zSc X L9 sc) (hi : i + 6 ≤ L9) (hc : cells + 2 ≤ 601024) (hs : slots + 9 ≤ 7293034) (hN : N ≤ 20000) (hI : LI h N)
    (kont : ∀ (h' : zH) (c' s' : Nat), LI h' (N + 32) → c' ≤ cells + 2 → s' ≤ slots + 9 → zV X PLW cL_law 8 RL (some .boolean) 11 601024 7293034 1791 [(0, .ref 1000), (1, .ref 0), (2, .ref 47), (3, .ref 90), (4, .int (iI (i:Nat)))] [] h' 91 c' s') :
    (zV X (PLW) cL_law 8 RL (some .boolean) 11 601024 7293034 1214 [(0, .ref 1000), (1, .ref 0), (2, .ref 47), (3, .ref 90), (4, .int (iI (i:Nat)))] [] h 91 cells slots) := by
  have hL9 := hSc.l
  obtain ⟨wd, pt, tf, Q, qn, tc, L, th, g, hH, hM, h_90, hPL, hbb, htc, hQb⟩ := id hI
  obtain ⟨p1, e1⟩ : ∃ p, sc (i + 1) = p := ⟨_, rfl⟩
  have r1 := hSc.r (i + 1)
  rw [e1] at r1
  cases hx : isQ p1 with
  | false =>
    refine v_aload_n dL_law_1214 rfl ?_
    refine v_aload_n dL_law_1215 rfl ?_
    refine v_iload dL_law_1216 rfl ?_
    refine v_iconst (iI 1) dL_law_1218 rfl ?_
    refine w_iadd dL_law_1219 ?_
    refine w_sld hSc (by decide) dL_law_1220 (i + 1) (by omega) (by omega) e1 ?_
    refine v_cSW (av := [.ref 0, .int (iI p1)]) (st := []) hE zyL_clear lL_169 (q_clearI hH r1 hx) dL_law_1221 rfl rfl (Nat.le_of_ble_eq_true rfl) (by omega) (by omega) (by omega) (Or.inl (fun _ _ _ q => ZN q)) (fun r9 G1 n9 q9 => ?_)
    obtain ⟨rfl, q9n, hH, fr1⟩ := q9
    have q9n := q9n.symm
    subst q9n
    have hM := hM.fr fr1 (by decide)
    have h_90 := (fr1 90 (by decide)).trans h_90
    obtain ⟨_, _, _, _, _, _, _, _, _, _, _, _, h_47, -⟩ := id hM
    refine v_istore (i := 5) (lv' := [(5, .int (iI 1)), (0, .ref 1000), (1, .ref 0), (2, .ref 47), (3, .ref 90), (4, .int (iI (i:Nat)))]) dL_law_1224 (by decide) rfl ?_
    refine v_aload_n dL_law_1226 rfl ?_
    refine v_aload_n dL_law_1227 rfl ?_
    refine v_iload dL_law_1228 rfl ?_
    refine v_iconst (iI 1) dL_law_1230 rfl ?_
    refine w_iadd dL_law_1231 ?_
    refine w_sld hSc (by decide) dL_law_1232 (i + 1) (by omega) (by omega) e1 ?_
    refine v_cV (av := [.int (iI p1)]) (st := []) zyX11_clear lL_172 h_47 rfl (p_Mclearx (d := 10) hM r1 hx (by decide)) dL_law_1233 rfl rfl (Nat.le_of_ble_eq_true rfl) (by omega) (by omega) (by omega) (Or.inl (fun _ _ _ q => ZN q)) (fun r9 G2 n9 q9 => ?_)
    obtain ⟨rfl, q9n, hM, fr2⟩ := q9
    have q9n := q9n.symm
    subst q9n
    have hH := hH.fr fr2 (by decide)
    have h_90 := (fr2 90 (by decide)).trans h_90
    obtain ⟨_, _, _, _, _, _, _, _, _, _, _, _, h_47, -⟩ := id hM
    refine v_aload_n dL_law_1236 rfl ?_
    refine v_cV (av := []) (st := []) zyX11_thrown lL_111 h_47 rfl (p_thrown (d := 10) hM) dL_law_1237 rfl rfl (Nat.le_of_ble_eq_true rfl) (by omega) (by omega) (by omega) (Or.inl (fun _ _ _ q => ZN q)) (fun r9 K1 n9 q9 => ?_)
    obtain ⟨rfl, q9n, q9h⟩ := q9
    have q9n := q9n.symm
    subst q9n
    have q9h := q9h.symm
    subst q9h
    refine v_iload dL_law_1240 rfl ?_
    refine w_icmp_same 1247 dL_law_1242 (by decide) ?_
    refine v_goto 1791 dL_law_1247 (by decide) ?_
    refine w_sub (lv2 := [(0, .ref 1000), (1, .ref 0), (2, .ref 47), (3, .ref 90), (4, .int (iI (i:Nat)))]) [1, 2, 3, 4, 5] rfl ?_
    exact kont _ _ _ ⟨wd, pt, tf, Q, qn, tc, L, _, _, hH, hM, h_90, hPL, hbb, htc, hQb.mono (by omega)⟩ (by omega) (by omega)
  | true =>
    obtain ⟨k, q1, hk⟩ := n_Q hx
    subst q1
    refine v_aload_n dL_law_1214 rfl ?_
    refine v_aload_n dL_law_1215 rfl ?_
    refine v_iload dL_law_1216 rfl ?_
    refine v_iconst (iI 1) dL_law_1218 rfl ?_
    refine w_iadd dL_law_1219 ?_
    refine w_sld hSc (by decide) dL_law_1220 (i + 1) (by omega) (by omega) e1 ?_
    refine v_cSW (av := [.ref 0, .int (iI (k:Nat))]) (st := []) hE zyL_clear lL_169 (q_clear hH hk) dL_law_1221 rfl rfl (Nat.le_of_ble_eq_true rfl) (by omega) (by omega) (by omega) (Or.inl (fun _ _ _ q => ZN q)) (fun r9 G1 n9 q9 => ?_)
    obtain ⟨rfl, q9n, hH, fr1⟩ := q9
    have q9n := q9n.symm
    subst q9n
    have hM := hM.fr fr1 (by decide)
    have h_90 := (fr1 90 (by decide)).trans h_90
    obtain ⟨_, _, _, _, _, _, _, _, _, _, _, _, h_47, -⟩ := id hM
    refine v_istore (i := 5) (lv' := [(5, .int (iI 0)), (0, .ref 1000), (1, .ref 0), (2, .ref 47), (3, .ref 90), (4, .int (iI (i:Nat)))]) dL_law_1224 (by decide) rfl ?_
    refine v_aload_n dL_law_1226 rfl ?_
    refine v_aload_n dL_law_1227 rfl ?_
    refine v_iload dL_law_1228 rfl ?_
    refine v_iconst (iI 1) dL_law_1230 rfl ?_
    refine w_iadd dL_law_1231 ?_
    refine w_sld hSc (by decide) dL_law_1232 (i + 1) (by omega) (by omega) e1 ?_
    refine v_cV (av := [.int (iI (k:Nat))]) (st := []) zyX11_clear lL_172 h_47 rfl (p_Mclear (d := 10) hM hk (by decide)) dL_law_1233 rfl rfl (Nat.le_of_ble_eq_true rfl) (by omega) (by omega) (by omega) (Or.inl (fun _ _ _ q => ZN q)) (fun r9 G2 n9 q9 => ?_)
    obtain ⟨rfl, q9n, hM, fr2⟩ := q9
    have q9n := q9n.symm
    subst q9n
    have hH := hH.fr fr2 (by decide)
    have h_90 := (fr2 90 (by decide)).trans h_90
    obtain ⟨_, _, _, _, _, _, _, _, _, _, _, _, h_47, -⟩ := id hM
    refine v_aload_n dL_law_1236 rfl ?_
    refine v_cV (av := []) (st := []) zyX11_thrown lL_111 h_47 rfl (p_thrown (d := 10) hM) dL_law_1237 rfl rfl (Nat.le_of_ble_eq_true rfl) (by omega) (by omega) (by omega) (Or.inl (fun _ _ _ q => ZN q)) (fun r9 K1 n9 q9 => ?_)
    obtain ⟨rfl, q9n, q9h⟩ := q9
    have q9n := q9n.symm
    subst q9n
    have q9h := q9h.symm
    subst q9h
    refine v_iload dL_law_1240 rfl ?_
    refine w_icmp_same 1247 dL_law_1242 (by decide) ?_
    refine v_goto 1791 dL_law_1247 (by decide) ?_
    refine w_sub (lv2 := [(0, .ref 1000), (1, .ref 0), (2, .ref 47), (3, .ref 90), (4, .int (iI (i:Nat)))]) [1, 2, 3, 4, 5] rfl ?_
    exact kont _ _ _ ⟨wd, pt, tf, zup Q k 0, zup qn k false, tc, L, _, _, hH, hM, h_90, hPL, hbb, htc, (hQb.up (Nat.zero_le _)).mono (by omega)⟩ (by omega) (by omega)
set_option maxHeartbeats 8000000 in
set_option maxRecDepth 100000 in
theorem c_gather {X : zX} {i cells slots N L9 : Nat} {sc : Nat → Int} {h : zH} (hE : zLE X) (hSc : zSc X L9 sc) (hi : i + 6 ≤ L9) (hc : cells + 2 ≤ 601024) (hs : slots + 9 ≤ 7293034) (hN : N ≤ 20000) (hI : LI h N)
    (kont : ∀ (h' : zH) (c' s' : Nat), LI h' (N + 32) → c' ≤ cells + 2 → s' ≤ slots + 9 → zV X PLW cL_law 8 RL (some .boolean) 11 601024 7293034 1791 [(0, .ref 1000), (1, .ref 0), (2, .ref 47), (3, .ref 90), (4, .int (iI (i:Nat)))] [] h' 91 c' s') :
    (zV X (PLW) cL_law 8 RL (some .boolean) 11 601024 7293034 1250 [(0, .ref 1000), (1, .ref 0), (2, .ref 47), (3, .ref 90), (4, .int (iI (i:Nat)))] [] h 91 cells slots) := by
  have hL9 := hSc.l
  obtain ⟨wd, pt, tf, Q, qn, tc, L, th, g, hH, hM, h_90, hPL, hbb, htc, hQb⟩ := id hI
  obtain ⟨p1, e1⟩ : ∃ p, sc (i + 1) = p := ⟨_, rfl⟩
  have r1 := hSc.r (i + 1)
  rw [e1] at r1
  obtain ⟨p2, e2⟩ : ∃ p, sc (i + 2) = p := ⟨_, rfl⟩
  have r2 := hSc.r (i + 2)
  rw [e2] at r2
  obtain ⟨p3, e3⟩ : ∃ p, sc (i + 3) = p := ⟨_, rfl⟩
  have r3 := hSc.r (i + 3)
  rw [e3] at r3
  obtain ⟨p4, e4⟩ : ∃ p, sc (i + 4) = p := ⟨_, rfl⟩
  have r4 := hSc.r (i + 4)
  rw [e4] at r4
  by_cases hb9 : p4 = 0
  · skip
    cases hx : (isQ p1 && (isP p2 && isP p3)) with
    | false =>
      refine v_aload_n dL_law_1250 rfl ?_
      refine v_aload_n dL_law_1251 rfl ?_
      refine v_iload dL_law_1252 rfl ?_
      refine v_iconst (iI 1) dL_law_1254 rfl ?_
      refine w_iadd dL_law_1255 ?_
      refine w_sld hSc (by decide) dL_law_1256 (i + 1) (by omega) (by omega) e1 ?_
      refine v_aload_n dL_law_1257 rfl ?_
      refine v_iload dL_law_1258 rfl ?_
      refine v_iconst (iI 2) dL_law_1260 rfl ?_
      refine w_iadd dL_law_1261 ?_
      refine w_sld hSc (by decide) dL_law_1262 (i + 2) (by omega) (by omega) e2 ?_
      refine v_aload_n dL_law_1263 rfl ?_
      refine v_iload dL_law_1264 rfl ?_
      refine v_iconst (iI 3) dL_law_1266 rfl ?_
      refine w_iadd dL_law_1267 ?_
      refine w_sld hSc (by decide) dL_law_1268 (i + 3) (by omega) (by omega) e3 ?_
      refine v_aload_n dL_law_1269 rfl ?_
      refine v_iload dL_law_1270 rfl ?_
      refine v_iconst (iI 4) dL_law_1272 rfl ?_
      refine w_iadd dL_law_1273 ?_
      refine w_sld hSc (by decide) dL_law_1274 (i + 4) (by omega) (by omega) e4 ?_
      refine w_if_eq 1282 dL_law_1275 (by decide) (by omega) (fun c5 => ?_) (fun c5 => ?_)
      · skip
        refine v_iconst (iI 0) dL_law_1282 rfl ?_
        refine w_ei (bz false) rfl ?_
        refine v_cSW (av := [.ref 0, .int (iI p1), .int (iI p2), .int (iI p3), .int (iI (bz false))]) (st := []) hE zyL_gather lL_173 (q_gatherI (mi := false) hH r1 r2 r3 hx) dL_law_1283 rfl rfl (Nat.le_of_ble_eq_true rfl) (by omega) (by omega) (by omega) (Or.inl (fun _ _ _ q => ZN q)) (fun r9 G1 n9 q9 => ?_)
        obtain ⟨rfl, q9n, hH, fr1⟩ := q9
        have q9n := q9n.symm
        subst q9n
        have hM := hM.fr fr1 (by decide)
        have h_90 := (fr1 90 (by decide)).trans h_90
        obtain ⟨_, _, _, _, _, _, _, _, _, _, _, _, h_47, -⟩ := id hM
        refine v_istore (i := 5) (lv' := [(5, .int (iI 1)), (0, .ref 1000), (1, .ref 0), (2, .ref 47), (3, .ref 90), (4, .int (iI (i:Nat)))]) dL_law_1286 (by decide) rfl ?_
        refine v_aload_n dL_law_1288 rfl ?_
        refine v_aload_n dL_law_1289 rfl ?_
        refine v_iload dL_law_1290 rfl ?_
        refine v_iconst (iI 1) dL_law_1292 rfl ?_
        refine w_iadd dL_law_1293 ?_
        refine w_sld hSc (by decide) dL_law_1294 (i + 1) (by omega) (by omega) e1 ?_
        refine v_aload_n dL_law_1295 rfl ?_
        refine v_iload dL_law_1296 rfl ?_
        refine v_iconst (iI 2) dL_law_1298 rfl ?_
        refine w_iadd dL_law_1299 ?_
        refine w_sld hSc (by decide) dL_law_1300 (i + 2) (by omega) (by omega) e2 ?_
        refine v_aload_n dL_law_1301 rfl ?_
        refine v_iload dL_law_1302 rfl ?_
        refine v_iconst (iI 3) dL_law_1304 rfl ?_
        refine w_iadd dL_law_1305 ?_
        refine w_sld hSc (by decide) dL_law_1306 (i + 3) (by omega) (by omega) e3 ?_
        refine v_aload_n dL_law_1307 rfl ?_
        refine v_iload dL_law_1308 rfl ?_
        refine v_iconst (iI 4) dL_law_1310 rfl ?_
        refine w_iadd dL_law_1311 ?_
        refine w_sld hSc (by decide) dL_law_1312 (i + 4) (by omega) (by omega) e4 ?_
        refine w_if_eq 1320 dL_law_1313 (by decide) (by omega) (fun c5 => ?_) (fun c5 => ?_)
        · skip
          refine v_iconst (iI 0) dL_law_1320 rfl ?_
          refine w_ei (bz false) rfl ?_
          refine v_cV (av := [.int (iI p1), .int (iI p2), .int (iI p3), .int (iI (bz false))]) (st := []) zyX11_gather_ lL_176 h_47 rfl (p_Mgatherx (d := 10) (mi := false) hM r1 r2 r3 (by rw [hx]; rfl) (by decide)) dL_law_1321 rfl rfl (Nat.le_of_ble_eq_true rfl) (by omega) (by omega) (by omega) (Or.inl (fun _ _ _ q => ZN q)) (fun r9 G2 n9 q9 => ?_)
          obtain ⟨rfl, q9n, hM, fr2⟩ := q9
          have q9n := q9n.symm
          subst q9n
          have hH := hH.fr fr2 (by decide)
          have h_90 := (fr2 90 (by decide)).trans h_90
          rw [show thr (isQ p1 && (isP p2 && isP p3)) true = 1 from by rw [hx]; rfl] at hM
          obtain ⟨_, _, _, _, _, _, _, _, _, _, _, _, h_47, -⟩ := id hM
          refine v_aload_n dL_law_1324 rfl ?_
          refine v_cV (av := []) (st := []) zyX11_thrown lL_111 h_47 rfl (p_thrown (d := 10) hM) dL_law_1325 rfl rfl (Nat.le_of_ble_eq_true rfl) (by omega) (by omega) (by omega) (Or.inl (fun _ _ _ q => ZN q)) (fun r9 K1 n9 q9 => ?_)
          obtain ⟨rfl, q9n, q9h⟩ := q9
          have q9n := q9n.symm
          subst q9n
          have q9h := q9h.symm
          subst q9h
          refine v_iload dL_law_1328 rfl ?_
          refine w_icmp_same 1335 dL_law_1330 (by decide) ?_
          refine v_goto 1791 dL_law_1335 (by decide) ?_
          refine w_sub (lv2 := [(0, .ref 1000), (1, .ref 0), (2, .ref 47), (3, .ref 90), (4, .int (iI (i:Nat)))]) [1, 2, 3, 4, 5] rfl ?_
          exact kont _ _ _ ⟨wd, pt, tf, Q, qn, tc, L, _, _, hH, hM, h_90, hPL, hbb, htc, hQb.mono (by omega)⟩ (by omega) (by omega)
        · exact absurd hb9 c5
      · exact absurd hb9 c5
    | true =>
      rw [Bool.and_eq_true, Bool.and_eq_true] at hx
      obtain ⟨k, q1, hk⟩ := n_Q hx.1
      subst q1
      obtain ⟨a1, q2, h1⟩ := n_P hx.2.1
      subst q2
      obtain ⟨a2, q3, h2⟩ := n_P hx.2.2
      subst q3
      have hg9 := mg_a (Q := Q k) (na := qn k) (b := cond false (-1) 1) hPL h1 h2 (Or.inl rfl)
      have hq9 := hQb k hk
      refine v_aload_n dL_law_1250 rfl ?_
      refine v_aload_n dL_law_1251 rfl ?_
      refine v_iload dL_law_1252 rfl ?_
      refine v_iconst (iI 1) dL_law_1254 rfl ?_
      refine w_iadd dL_law_1255 ?_
      refine w_sld hSc (by decide) dL_law_1256 (i + 1) (by omega) (by omega) e1 ?_
      refine v_aload_n dL_law_1257 rfl ?_
      refine v_iload dL_law_1258 rfl ?_
      refine v_iconst (iI 2) dL_law_1260 rfl ?_
      refine w_iadd dL_law_1261 ?_
      refine w_sld hSc (by decide) dL_law_1262 (i + 2) (by omega) (by omega) e2 ?_
      refine v_aload_n dL_law_1263 rfl ?_
      refine v_iload dL_law_1264 rfl ?_
      refine v_iconst (iI 3) dL_law_1266 rfl ?_
      refine w_iadd dL_law_1267 ?_
      refine w_sld hSc (by decide) dL_law_1268 (i + 3) (by omega) (by omega) e3 ?_
      refine v_aload_n dL_law_1269 rfl ?_
      refine v_iload dL_law_1270 rfl ?_
      refine v_iconst (iI 4) dL_law_1272 rfl ?_
      refine w_iadd dL_law_1273 ?_
      refine w_sld hSc (by decide) dL_law_1274 (i + 4) (by omega) (by omega) e4 ?_
      refine w_if_eq 1282 dL_law_1275 (by decide) (by omega) (fun c5 => ?_) (fun c5 => ?_)
      · skip
        refine v_iconst (iI 0) dL_law_1282 rfl ?_
        refine w_ei (bz false) rfl ?_
        refine v_cSW (av := [.ref 0, .int (iI (k:Nat)), .int (iI (a1:Nat)), .int (iI (a2:Nat)), .int (iI (bz false))]) (st := []) hE zyL_gather lL_173 (q_gather (mi := false) hH hPL hk h1 h2) dL_law_1283 rfl rfl (Nat.le_of_ble_eq_true rfl) (by omega) (by omega) (by omega) (Or.inl (fun _ _ _ q => ZN q)) (fun r9 G1 n9 q9 => ?_)
        obtain ⟨rfl, q9n, hH, fr1⟩ := q9
        have q9n := q9n.symm
        subst q9n
        have hM := hM.fr fr1 (by decide)
        have h_90 := (fr1 90 (by decide)).trans h_90
        obtain ⟨_, _, _, _, _, _, _, _, _, _, _, _, h_47, -⟩ := id hM
        refine v_istore (i := 5) (lv' := [(5, .int (iI 0)), (0, .ref 1000), (1, .ref 0), (2, .ref 47), (3, .ref 90), (4, .int (iI (i:Nat)))]) dL_law_1286 (by decide) rfl ?_
        refine v_aload_n dL_law_1288 rfl ?_
        refine v_aload_n dL_law_1289 rfl ?_
        refine v_iload dL_law_1290 rfl ?_
        refine v_iconst (iI 1) dL_law_1292 rfl ?_
        refine w_iadd dL_law_1293 ?_
        refine w_sld hSc (by decide) dL_law_1294 (i + 1) (by omega) (by omega) e1 ?_
        refine v_aload_n dL_law_1295 rfl ?_
        refine v_iload dL_law_1296 rfl ?_
        refine v_iconst (iI 2) dL_law_1298 rfl ?_
        refine w_iadd dL_law_1299 ?_
        refine w_sld hSc (by decide) dL_law_1300 (i + 2) (by omega) (by omega) e2 ?_
        refine v_aload_n dL_law_1301 rfl ?_
        refine v_iload dL_law_1302 rfl ?_
        refine v_iconst (iI 3) dL_law_1304 rfl ?_
        refine w_iadd dL_law_1305 ?_
        refine w_sld hSc (by decide) dL_law_1306 (i + 3) (by omega) (by omega) e3 ?_
        refine v_aload_n dL_law_1307 rfl ?_
        refine v_iload dL_law_1308 rfl ?_
        refine v_iconst (iI 4) dL_law_1310 rfl ?_
        refine w_iadd dL_law_1311 ?_
        refine w_sld hSc (by decide) dL_law_1312 (i + 4) (by omega) (by omega) e4 ?_
        refine w_if_eq 1320 dL_law_1313 (by decide) (by omega) (fun c5 => ?_) (fun c5 => ?_)
        · skip
          refine v_iconst (iI 0) dL_law_1320 rfl ?_
          refine w_ei (bz false) rfl ?_
          refine v_cV (av := [.int (iI (k:Nat)), .int (iI (a1:Nat)), .int (iI (a2:Nat)), .int (iI (bz false))]) (st := []) zyX11_gather_ lL_176 h_47 rfl (p_Mgather (d := 10) (mi := false) hM hPL hk h1 h2 (Nat.le_trans (hQb.n5 hN hk).2 (by decide)) (by decide)) dL_law_1321 rfl rfl (Nat.le_of_ble_eq_true rfl) (by omega) (by omega) (by omega) (Or.inl (fun _ _ _ q => ZN q)) (fun r9 G2 n9 q9 => ?_)
          obtain ⟨rfl, q9n, hM, fr2⟩ := q9
          have q9n := q9n.symm
          subst q9n
          have hH := hH.fr fr2 (by decide)
          have h_90 := (fr2 90 (by decide)).trans h_90
          obtain ⟨_, _, _, _, _, _, _, _, _, _, _, _, h_47, -⟩ := id hM
          refine v_aload_n dL_law_1324 rfl ?_
          refine v_cV (av := []) (st := []) zyX11_thrown lL_111 h_47 rfl (p_thrown (d := 10) hM) dL_law_1325 rfl rfl (Nat.le_of_ble_eq_true rfl) (by omega) (by omega) (by omega) (Or.inl (fun _ _ _ q => ZN q)) (fun r9 K1 n9 q9 => ?_)
          obtain ⟨rfl, q9n, q9h⟩ := q9
          have q9n := q9n.symm
          subst q9n
          have q9h := q9h.symm
          subst q9h
          refine v_iload dL_law_1328 rfl ?_
          refine w_icmp_same 1335 dL_law_1330 (by decide) ?_
          refine v_goto 1791 dL_law_1335 (by decide) ?_
          refine w_sub (lv2 := [(0, .ref 1000), (1, .ref 0), (2, .ref 47), (3, .ref 90), (4, .int (iI (i:Nat)))]) [1, 2, 3, 4, 5] rfl ?_
          exact kont _ _ _ ⟨wd, pt, tf, zup Q k (mgQ wd pt (Q k) (qn k) a1 a2 (cond false (-1) 1)), zup qn k (mgN wd pt (qn k) a1 a2), tc, L, _, _, hH, hM, h_90, hPL, hbb, htc, (hQb.mono (by omega)).up (by rw [Nat.add_mul]; omega)⟩ (by omega) (by omega)
        · exact absurd hb9 c5
      · exact absurd hb9 c5
  · skip
    cases hx : (isQ p1 && (isP p2 && isP p3)) with
    | false =>
      refine v_aload_n dL_law_1250 rfl ?_
      refine v_aload_n dL_law_1251 rfl ?_
      refine v_iload dL_law_1252 rfl ?_
      refine v_iconst (iI 1) dL_law_1254 rfl ?_
      refine w_iadd dL_law_1255 ?_
      refine w_sld hSc (by decide) dL_law_1256 (i + 1) (by omega) (by omega) e1 ?_
      refine v_aload_n dL_law_1257 rfl ?_
      refine v_iload dL_law_1258 rfl ?_
      refine v_iconst (iI 2) dL_law_1260 rfl ?_
      refine w_iadd dL_law_1261 ?_
      refine w_sld hSc (by decide) dL_law_1262 (i + 2) (by omega) (by omega) e2 ?_
      refine v_aload_n dL_law_1263 rfl ?_
      refine v_iload dL_law_1264 rfl ?_
      refine v_iconst (iI 3) dL_law_1266 rfl ?_
      refine w_iadd dL_law_1267 ?_
      refine w_sld hSc (by decide) dL_law_1268 (i + 3) (by omega) (by omega) e3 ?_
      refine v_aload_n dL_law_1269 rfl ?_
      refine v_iload dL_law_1270 rfl ?_
      refine v_iconst (iI 4) dL_law_1272 rfl ?_
      refine w_iadd dL_law_1273 ?_
      refine w_sld hSc (by decide) dL_law_1274 (i + 4) (by omega) (by omega) e4 ?_
      refine w_if_eq 1282 dL_law_1275 (by decide) (by omega) (fun c5 => ?_) (fun c5 => ?_)
      · exact absurd c5 hb9
      · skip
        refine v_iconst (iI 1) dL_law_1278 rfl ?_
        refine v_goto 1283 dL_law_1279 (by decide) ?_
        refine w_ei (bz true) rfl ?_
        refine v_cSW (av := [.ref 0, .int (iI p1), .int (iI p2), .int (iI p3), .int (iI (bz true))]) (st := []) hE zyL_gather lL_173 (q_gatherI (mi := true) hH r1 r2 r3 hx) dL_law_1283 rfl rfl (Nat.le_of_ble_eq_true rfl) (by omega) (by omega) (by omega) (Or.inl (fun _ _ _ q => ZN q)) (fun r9 G1 n9 q9 => ?_)
        obtain ⟨rfl, q9n, hH, fr1⟩ := q9
        have q9n := q9n.symm
        subst q9n
        have hM := hM.fr fr1 (by decide)
        have h_90 := (fr1 90 (by decide)).trans h_90
        obtain ⟨_, _, _, _, _, _, _, _, _, _, _, _, h_47, -⟩ := id hM
        refine v_istore (i := 5) (lv' := [(5, .int (iI 1)), (0, .ref 1000), (1, .ref 0), (2, .ref 47), (3, .ref 90), (4, .int (iI (i:Nat)))]) dL_law_1286 (by decide) rfl ?_
        refine v_aload_n dL_law_1288 rfl ?_
        refine v_aload_n dL_law_1289 rfl ?_
        refine v_iload dL_law_1290 rfl ?_
        refine v_iconst (iI 1) dL_law_1292 rfl ?_
        refine w_iadd dL_law_1293 ?_
        refine w_sld hSc (by decide) dL_law_1294 (i + 1) (by omega) (by omega) e1 ?_
        refine v_aload_n dL_law_1295 rfl ?_
        refine v_iload dL_law_1296 rfl ?_
        refine v_iconst (iI 2) dL_law_1298 rfl ?_
        refine w_iadd dL_law_1299 ?_
        refine w_sld hSc (by decide) dL_law_1300 (i + 2) (by omega) (by omega) e2 ?_
        refine v_aload_n dL_law_1301 rfl ?_
        refine v_iload dL_law_1302 rfl ?_
        refine v_iconst (iI 3) dL_law_1304 rfl ?_
        refine w_iadd dL_law_1305 ?_
        refine w_sld hSc (by decide) dL_law_1306 (i + 3) (by omega) (by omega) e3 ?_
        refine v_aload_n dL_law_1307 rfl ?_
        refine v_iload dL_law_1308 rfl ?_
        refine v_iconst (iI 4) dL_law_1310 rfl ?_
        refine w_iadd dL_law_1311 ?_
        refine w_sld hSc (by decide) dL_law_1312 (i + 4) (by omega) (by omega) e4 ?_
        refine w_if_eq 1320 dL_law_1313 (by decide) (by omega) (fun c5 => ?_) (fun c5 => ?_)
        · exact absurd c5 hb9
        · skip
          refine v_iconst (iI 1) dL_law_1316 rfl ?_
          refine v_goto 1321 dL_law_1317 (by decide) ?_
          refine w_ei (bz true) rfl ?_
          refine v_cV (av := [.int (iI p1), .int (iI p2), .int (iI p3), .int (iI (bz true))]) (st := []) zyX11_gather_ lL_176 h_47 rfl (p_Mgatherx (d := 10) (mi := true) hM r1 r2 r3 (by rw [hx]; rfl) (by decide)) dL_law_1321 rfl rfl (Nat.le_of_ble_eq_true rfl) (by omega) (by omega) (by omega) (Or.inl (fun _ _ _ q => ZN q)) (fun r9 G2 n9 q9 => ?_)
          obtain ⟨rfl, q9n, hM, fr2⟩ := q9
          have q9n := q9n.symm
          subst q9n
          have hH := hH.fr fr2 (by decide)
          have h_90 := (fr2 90 (by decide)).trans h_90
          rw [show thr (isQ p1 && (isP p2 && isP p3)) true = 1 from by rw [hx]; rfl] at hM
          obtain ⟨_, _, _, _, _, _, _, _, _, _, _, _, h_47, -⟩ := id hM
          refine v_aload_n dL_law_1324 rfl ?_
          refine v_cV (av := []) (st := []) zyX11_thrown lL_111 h_47 rfl (p_thrown (d := 10) hM) dL_law_1325 rfl rfl (Nat.le_of_ble_eq_true rfl) (by omega) (by omega) (by omega) (Or.inl (fun _ _ _ q => ZN q)) (fun r9 K1 n9 q9 => ?_)
          obtain ⟨rfl, q9n, q9h⟩ := q9
          have q9n := q9n.symm
          subst q9n
          have q9h := q9h.symm
          subst q9h
          refine v_iload dL_law_1328 rfl ?_
          refine w_icmp_same 1335 dL_law_1330 (by decide) ?_
          refine v_goto 1791 dL_law_1335 (by decide) ?_
          refine w_sub (lv2 := [(0, .ref 1000), (1, .ref 0), (2, .ref 47), (3, .ref 90), (4, .int (iI (i:Nat)))]) [1, 2, 3, 4, 5] rfl ?_
          exact kont _ _ _ ⟨wd, pt, tf, Q, qn, tc, L, _, _, hH, hM, h_90, hPL, hbb, htc, hQb.mono (by omega)⟩ (by omega) (by omega)
    | true =>
      rw [Bool.and_eq_true, Bool.and_eq_true] at hx
      obtain ⟨k, q1, hk⟩ := n_Q hx.1
      subst q1
      obtain ⟨a1, q2, h1⟩ := n_P hx.2.1
      subst q2
      obtain ⟨a2, q3, h2⟩ := n_P hx.2.2
      subst q3
      have hg9 := mg_a (Q := Q k) (na := qn k) (b := cond true (-1) 1) hPL h1 h2 (Or.inr rfl)
      have hq9 := hQb k hk
      refine v_aload_n dL_law_1250 rfl ?_
      refine v_aload_n dL_law_1251 rfl ?_
      refine v_iload dL_law_1252 rfl ?_
      refine v_iconst (iI 1) dL_law_1254 rfl ?_
      refine w_iadd dL_law_1255 ?_
      refine w_sld hSc (by decide) dL_law_1256 (i + 1) (by omega) (by omega) e1 ?_
      refine v_aload_n dL_law_1257 rfl ?_
      refine v_iload dL_law_1258 rfl ?_
      refine v_iconst (iI 2) dL_law_1260 rfl ?_
      refine w_iadd dL_law_1261 ?_
      refine w_sld hSc (by decide) dL_law_1262 (i + 2) (by omega) (by omega) e2 ?_
      refine v_aload_n dL_law_1263 rfl ?_
      refine v_iload dL_law_1264 rfl ?_
      refine v_iconst (iI 3) dL_law_1266 rfl ?_
      refine w_iadd dL_law_1267 ?_
      refine w_sld hSc (by decide) dL_law_1268 (i + 3) (by omega) (by omega) e3 ?_
      refine v_aload_n dL_law_1269 rfl ?_
      refine v_iload dL_law_1270 rfl ?_
      refine v_iconst (iI 4) dL_law_1272 rfl ?_
      refine w_iadd dL_law_1273 ?_
      refine w_sld hSc (by decide) dL_law_1274 (i + 4) (by omega) (by omega) e4 ?_
      refine w_if_eq 1282 dL_law_1275 (by decide) (by omega) (fun c5 => ?_) (fun c5 => ?_)
      · exact absurd c5 hb9
      · skip
        refine v_iconst (iI 1) dL_law_1278 rfl ?_
        refine v_goto 1283 dL_law_1279 (by decide) ?_
        refine w_ei (bz true) rfl ?_
        refine v_cSW (av := [.ref 0, .int (iI (k:Nat)), .int (iI (a1:Nat)), .int (iI (a2:Nat)), .int (iI (bz true))]) (st := []) hE zyL_gather lL_173 (q_gather (mi := true) hH hPL hk h1 h2) dL_law_1283 rfl rfl (Nat.le_of_ble_eq_true rfl) (by omega) (by omega) (by omega) (Or.inl (fun _ _ _ q => ZN q)) (fun r9 G1 n9 q9 => ?_)
        obtain ⟨rfl, q9n, hH, fr1⟩ := q9
        have q9n := q9n.symm
        subst q9n
        have hM := hM.fr fr1 (by decide)
        have h_90 := (fr1 90 (by decide)).trans h_90
        obtain ⟨_, _, _, _, _, _, _, _, _, _, _, _, h_47, -⟩ := id hM
        refine v_istore (i := 5) (lv' := [(5, .int (iI 0)), (0, .ref 1000), (1, .ref 0), (2, .ref 47), (3, .ref 90), (4, .int (iI (i:Nat)))]) dL_law_1286 (by decide) rfl ?_
        refine v_aload_n dL_law_1288 rfl ?_
        refine v_aload_n dL_law_1289 rfl ?_
        refine v_iload dL_law_1290 rfl ?_
        refine v_iconst (iI 1) dL_law_1292 rfl ?_
        refine w_iadd dL_law_1293 ?_
        refine w_sld hSc (by decide) dL_law_1294 (i + 1) (by omega) (by omega) e1 ?_
        refine v_aload_n dL_law_1295 rfl ?_
        refine v_iload dL_law_1296 rfl ?_
        refine v_iconst (iI 2) dL_law_1298 rfl ?_
        refine w_iadd dL_law_1299 ?_
        refine w_sld hSc (by decide) dL_law_1300 (i + 2) (by omega) (by omega) e2 ?_
        refine v_aload_n dL_law_1301 rfl ?_
        refine v_iload dL_law_1302 rfl ?_
        refine v_iconst (iI 3) dL_law_1304 rfl ?_
        refine w_iadd dL_law_1305 ?_
        refine w_sld hSc (by decide) dL_law_1306 (i + 3) (by omega) (by omega) e3 ?_
        refine v_aload_n dL_law_1307 rfl ?_
        refine v_iload dL_law_1308 rfl ?_
        refine v_iconst (iI 4) dL_law_1310 rfl ?_
        refine w_iadd dL_law_1311 ?_
        refine w_sld hSc (by decide) dL_law_1312 (i + 4) (by omega) (by omega) e4 ?_
        refine w_if_eq 1320 dL_law_1313 (by decide) (by omega) (fun c5 => ?_) (fun c5 => ?_)
        · exact absurd c5 hb9
        · skip
          refine v_iconst (iI 1) dL_law_1316 rfl ?_
          refine v_goto 1321 dL_law_1317 (by decide) ?_
          refine w_ei (bz true) rfl ?_
          refine v_cV (av := [.int (iI (k:Nat)), .int (iI (a1:Nat)), .int (iI (a2:Nat)), .int (iI (bz true))]) (st := []) zyX11_gather_ lL_176 h_47 rfl (p_Mgather (d := 10) (mi := true) hM hPL hk h1 h2 (Nat.le_trans (hQb.n5 hN hk).2 (by decide)) (by decide)) dL_law_1321 rfl rfl (Nat.le_of_ble_eq_true rfl) (by omega) (by omega) (by omega) (Or.inl (fun _ _ _ q => ZN q)) (fun r9 G2 n9 q9 => ?_)
          obtain ⟨rfl, q9n, hM, fr2⟩ := q9
          have q9n := q9n.symm
          subst q9n
          have hH := hH.fr fr2 (by decide)
          have h_90 := (fr2 90 (by decide)).trans h_90
          obtain ⟨_, _, _, _, _, _, _, _, _, _, _, _, h_47, -⟩ := id hM
          refine v_aload_n dL_law_1324 rfl ?_
          refine v_cV (av := []) (st := []) zyX11_thrown lL_111 h_47 rfl (p_thrown (d := 10) hM) dL_law_1325 rfl rfl (Nat.le_of_ble_eq_true rfl) (by omega) (by omega) (by omega) (Or.inl (fun _ _ _ q => ZN q)) (fun r9 K1 n9 q9 => ?_)
          obtain ⟨rfl, q9n, q9h⟩ := q9
          have q9n := q9n.symm
          subst q9n
          have q9h := q9h.symm
          subst q9h
          refine v_iload dL_law_1328 rfl ?_
          refine w_icmp_same 1335 dL_law_1330 (by decide) ?_
          refine v_goto 1791 dL_law_1335 (by decide) ?_
          refine w_sub (lv2 := [(0, .ref 1000), (1, .ref 0), (2, .ref 47), (3, .ref 90), (4, .int (iI (i:Nat)))]) [1, 2, 3, 4, 5] rfl ?_
          exact kont _ _ _ ⟨wd, pt, tf, zup Q k (mgQ wd pt (Q k) (qn k) a1 a2 (cond true (-1) 1)), zup qn k (mgN wd pt (qn k) a1 a2), tc, L, _, _, hH, hM, h_90, hPL, hbb, htc, (hQb.mono (by omega)).up (by rw [Nat.add_mul]; omega)⟩ (by omega) (by omega)
set_option maxHeartbeats 8000000 in
set_option maxRecDepth 100000 in
theorem c_dot {X : zX} {i cells slots N L9 : Nat} {sc : Nat → Int} {h : zH} (hE : zLE X) (hSc : zSc X L9 sc) (hi : i + 6 ≤ L9) (hc : cells + 2 ≤ 601024) (hs : slots + 9 ≤ 7293034) (hN : N ≤ 20000) (hI : LI h N)
    (kont : ∀ (h' : zH) (c' s' : Nat), LI h' (N + 32) → c' ≤ cells + 2 → s' ≤ slots + 9 → zV X PLW cL_law 8 RL (some .boolean) 11 601024 7293034 1791 [(0, .ref 1000), (1, .ref 0), (2, .ref 47), (3, .ref 90), (4, .int (iI (i:Nat)))] [] h' 91 c' s') :
    (zV X (PLW) cL_law 8 RL (some .boolean) 11 601024 7293034 1338 [(0, .ref 1000), (1, .ref 0), (2, .ref 47), (3, .ref 90), (4, .int (iI (i:Nat)))] [] h 91 cells slots) := by
  have hL9 := hSc.l
  obtain ⟨wd, pt, tf, Q, qn, tc, L, th, g, hH, hM, h_90, hPL, hbb, htc, hQb⟩ := id hI
  obtain ⟨p1, e1⟩ : ∃ p, sc (i + 1) = p := ⟨_, rfl⟩
  have r1 := hSc.r (i + 1)
  rw [e1] at r1
  obtain ⟨p2, e2⟩ : ∃ p, sc (i + 2) = p := ⟨_, rfl⟩
  have r2 := hSc.r (i + 2)
  rw [e2] at r2
  obtain ⟨p3, e3⟩ : ∃ p, sc (i + 3) = p := ⟨_, rfl⟩
  have r3 := hSc.r (i + 3)
  rw [e3] at r3
  obtain ⟨p4, e4⟩ : ∃ p, sc (i + 4) = p := ⟨_, rfl⟩
  have r4 := hSc.r (i + 4)
  rw [e4] at r4
  cases hx : (isQ p1 && (isP p2 && isP p3)) with
  | false =>
    refine v_aload_n dL_law_1338 rfl ?_
    refine v_aload_n dL_law_1339 rfl ?_
    refine v_iload dL_law_1340 rfl ?_
    refine v_iconst (iI 1) dL_law_1342 rfl ?_
    refine w_iadd dL_law_1343 ?_
    refine w_sld hSc (by decide) dL_law_1344 (i + 1) (by omega) (by omega) e1 ?_
    refine v_aload_n dL_law_1345 rfl ?_
    refine v_iload dL_law_1346 rfl ?_
    refine v_iconst (iI 2) dL_law_1348 rfl ?_
    refine w_iadd dL_law_1349 ?_
    refine w_sld hSc (by decide) dL_law_1350 (i + 2) (by omega) (by omega) e2 ?_
    refine v_aload_n dL_law_1351 rfl ?_
    refine v_iload dL_law_1352 rfl ?_
    refine v_iconst (iI 3) dL_law_1354 rfl ?_
    refine w_iadd dL_law_1355 ?_
    refine w_sld hSc (by decide) dL_law_1356 (i + 3) (by omega) (by omega) e3 ?_
    refine v_aload_n dL_law_1357 rfl ?_
    refine v_iload dL_law_1358 rfl ?_
    refine v_iconst (iI 4) dL_law_1360 rfl ?_
    refine w_iadd dL_law_1361 ?_
    refine w_sld hSc (by decide) dL_law_1362 (i + 4) (by omega) (by omega) e4 ?_
    refine v_cSW (av := [.ref 0, .int (iI p1), .int (iI p2), .int (iI p3), .int (iI p4)]) (st := []) hE zyL_dot lL_177 (q_dotI hH r1 r2 r3 r4 hx) dL_law_1363 rfl rfl (Nat.le_of_ble_eq_true rfl) (by omega) (by omega) (by omega) (Or.inl (fun _ _ _ q => ZN q)) (fun r9 G1 n9 q9 => ?_)
    obtain ⟨rfl, q9n, hH, fr1⟩ := q9
    have q9n := q9n.symm
    subst q9n
    have hM := hM.fr fr1 (by decide)
    have h_90 := (fr1 90 (by decide)).trans h_90
    obtain ⟨_, _, _, _, _, _, _, _, _, _, _, _, h_47, -⟩ := id hM
    refine v_istore (i := 5) (lv' := [(5, .int (iI 1)), (0, .ref 1000), (1, .ref 0), (2, .ref 47), (3, .ref 90), (4, .int (iI (i:Nat)))]) dL_law_1366 (by decide) rfl ?_
    refine v_aload_n dL_law_1368 rfl ?_
    refine v_aload_n dL_law_1369 rfl ?_
    refine v_iload dL_law_1370 rfl ?_
    refine v_iconst (iI 1) dL_law_1372 rfl ?_
    refine w_iadd dL_law_1373 ?_
    refine w_sld hSc (by decide) dL_law_1374 (i + 1) (by omega) (by omega) e1 ?_
    refine v_aload_n dL_law_1375 rfl ?_
    refine v_iload dL_law_1376 rfl ?_
    refine v_iconst (iI 2) dL_law_1378 rfl ?_
    refine w_iadd dL_law_1379 ?_
    refine w_sld hSc (by decide) dL_law_1380 (i + 2) (by omega) (by omega) e2 ?_
    refine v_aload_n dL_law_1381 rfl ?_
    refine v_iload dL_law_1382 rfl ?_
    refine v_iconst (iI 3) dL_law_1384 rfl ?_
    refine w_iadd dL_law_1385 ?_
    refine w_sld hSc (by decide) dL_law_1386 (i + 3) (by omega) (by omega) e3 ?_
    refine v_aload_n dL_law_1387 rfl ?_
    refine v_iload dL_law_1388 rfl ?_
    refine v_iconst (iI 4) dL_law_1390 rfl ?_
    refine w_iadd dL_law_1391 ?_
    refine w_sld hSc (by decide) dL_law_1392 (i + 4) (by omega) (by omega) e4 ?_
    refine v_cV (av := [.int (iI p1), .int (iI p2), .int (iI p3), .int (iI p4)]) (st := []) zyX11_dot lL_180 h_47 rfl (p_Mdotx (d := 10) hM r1 r2 r3 r4 (by rw [hx]; rfl) (by decide)) dL_law_1393 rfl rfl (Nat.le_of_ble_eq_true rfl) (by omega) (by omega) (by omega) (Or.inl (fun _ _ _ q => ZN q)) (fun r9 G2 n9 q9 => ?_)
    obtain ⟨rfl, q9n, hM, fr2⟩ := q9
    have q9n := q9n.symm
    subst q9n
    have hH := hH.fr fr2 (by decide)
    have h_90 := (fr2 90 (by decide)).trans h_90
    rw [show thr (isQ p1 && (isP p2 && isP p3)) (decide (0 ≤ p4 ∧ p4 ≤ 32)) = 1 from by rw [hx]; rfl] at hM
    obtain ⟨_, _, _, _, _, _, _, _, _, _, _, _, h_47, -⟩ := id hM
    refine v_aload_n dL_law_1396 rfl ?_
    refine v_cV (av := []) (st := []) zyX11_thrown lL_111 h_47 rfl (p_thrown (d := 10) hM) dL_law_1397 rfl rfl (Nat.le_of_ble_eq_true rfl) (by omega) (by omega) (by omega) (Or.inl (fun _ _ _ q => ZN q)) (fun r9 K1 n9 q9 => ?_)
    obtain ⟨rfl, q9n, q9h⟩ := q9
    have q9n := q9n.symm
    subst q9n
    have q9h := q9h.symm
    subst q9h
    refine v_iload dL_law_1400 rfl ?_
    refine w_icmp_same 1407 dL_law_1402 (by decide) ?_
    refine v_goto 1791 dL_law_1407 (by decide) ?_
    refine w_sub (lv2 := [(0, .ref 1000), (1, .ref 0), (2, .ref 47), (3, .ref 90), (4, .int (iI (i:Nat)))]) [1, 2, 3, 4, 5] rfl ?_
    exact kont _ _ _ ⟨wd, pt, tf, Q, qn, tc, L, _, _, hH, hM, h_90, hPL, hbb, htc, hQb.mono (by omega)⟩ (by omega) (by omega)
  | true =>
    cases hy : decide (0 ≤ p4 ∧ p4 ≤ 32) with
    | false =>
      have hx2 := hx
      rw [Bool.and_eq_true, Bool.and_eq_true] at hx2
      refine v_aload_n dL_law_1338 rfl ?_
      refine v_aload_n dL_law_1339 rfl ?_
      refine v_iload dL_law_1340 rfl ?_
      refine v_iconst (iI 1) dL_law_1342 rfl ?_
      refine w_iadd dL_law_1343 ?_
      refine w_sld hSc (by decide) dL_law_1344 (i + 1) (by omega) (by omega) e1 ?_
      refine v_aload_n dL_law_1345 rfl ?_
      refine v_iload dL_law_1346 rfl ?_
      refine v_iconst (iI 2) dL_law_1348 rfl ?_
      refine w_iadd dL_law_1349 ?_
      refine w_sld hSc (by decide) dL_law_1350 (i + 2) (by omega) (by omega) e2 ?_
      refine v_aload_n dL_law_1351 rfl ?_
      refine v_iload dL_law_1352 rfl ?_
      refine v_iconst (iI 3) dL_law_1354 rfl ?_
      refine w_iadd dL_law_1355 ?_
      refine w_sld hSc (by decide) dL_law_1356 (i + 3) (by omega) (by omega) e3 ?_
      refine v_aload_n dL_law_1357 rfl ?_
      refine v_iload dL_law_1358 rfl ?_
      refine v_iconst (iI 4) dL_law_1360 rfl ?_
      refine w_iadd dL_law_1361 ?_
      refine w_sld hSc (by decide) dL_law_1362 (i + 4) (by omega) (by omega) e4 ?_
      refine v_cSW (av := [.ref 0, .int (iI p1), .int (iI p2), .int (iI p3), .int (iI p4)]) (st := []) hE zyL_dot lL_177 (q_dotA hH r1 r2 r3 r4 hx2.1 hx2.2.1 hx2.2.2 (of_decide_eq_false hy)) dL_law_1363 rfl rfl (Nat.le_of_ble_eq_true rfl) (by omega) (by omega) (by omega) (Or.inl (fun _ _ _ q => ZN q)) (fun r9 G1 n9 q9 => ?_)
      obtain ⟨rfl, q9n, hH, fr1⟩ := q9
      have q9n := q9n.symm
      subst q9n
      have hM := hM.fr fr1 (by decide)
      have h_90 := (fr1 90 (by decide)).trans h_90
      obtain ⟨_, _, _, _, _, _, _, _, _, _, _, _, h_47, -⟩ := id hM
      refine v_istore (i := 5) (lv' := [(5, .int (iI 2)), (0, .ref 1000), (1, .ref 0), (2, .ref 47), (3, .ref 90), (4, .int (iI (i:Nat)))]) dL_law_1366 (by decide) rfl ?_
      refine v_aload_n dL_law_1368 rfl ?_
      refine v_aload_n dL_law_1369 rfl ?_
      refine v_iload dL_law_1370 rfl ?_
      refine v_iconst (iI 1) dL_law_1372 rfl ?_
      refine w_iadd dL_law_1373 ?_
      refine w_sld hSc (by decide) dL_law_1374 (i + 1) (by omega) (by omega) e1 ?_
      refine v_aload_n dL_law_1375 rfl ?_
      refine v_iload dL_law_1376 rfl ?_
      refine v_iconst (iI 2) dL_law_1378 rfl ?_
      refine w_iadd dL_law_1379 ?_
      refine w_sld hSc (by decide) dL_law_1380 (i + 2) (by omega) (by omega) e2 ?_
      refine v_aload_n dL_law_1381 rfl ?_
      refine v_iload dL_law_1382 rfl ?_
      refine v_iconst (iI 3) dL_law_1384 rfl ?_
      refine w_iadd dL_law_1385 ?_
      refine w_sld hSc (by decide) dL_law_1386 (i + 3) (by omega) (by omega) e3 ?_
      refine v_aload_n dL_law_1387 rfl ?_
      refine v_iload dL_law_1388 rfl ?_
      refine v_iconst (iI 4) dL_law_1390 rfl ?_
      refine w_iadd dL_law_1391 ?_
      refine w_sld hSc (by decide) dL_law_1392 (i + 4) (by omega) (by omega) e4 ?_
      refine v_cV (av := [.int (iI p1), .int (iI p2), .int (iI p3), .int (iI p4)]) (st := []) zyX11_dot lL_180 h_47 rfl (p_Mdotx (d := 10) hM r1 r2 r3 r4 (by rw [hx, hy]; rfl) (by decide)) dL_law_1393 rfl rfl (Nat.le_of_ble_eq_true rfl) (by omega) (by omega) (by omega) (Or.inl (fun _ _ _ q => ZN q)) (fun r9 G2 n9 q9 => ?_)
      obtain ⟨rfl, q9n, hM, fr2⟩ := q9
      have q9n := q9n.symm
      subst q9n
      have hH := hH.fr fr2 (by decide)
      have h_90 := (fr2 90 (by decide)).trans h_90
      rw [show thr (isQ p1 && (isP p2 && isP p3)) (decide (0 ≤ p4 ∧ p4 ≤ 32)) = 2 from by rw [hx, hy]; rfl] at hM
      obtain ⟨_, _, _, _, _, _, _, _, _, _, _, _, h_47, -⟩ := id hM
      refine v_aload_n dL_law_1396 rfl ?_
      refine v_cV (av := []) (st := []) zyX11_thrown lL_111 h_47 rfl (p_thrown (d := 10) hM) dL_law_1397 rfl rfl (Nat.le_of_ble_eq_true rfl) (by omega) (by omega) (by omega) (Or.inl (fun _ _ _ q => ZN q)) (fun r9 K1 n9 q9 => ?_)
      obtain ⟨rfl, q9n, q9h⟩ := q9
      have q9n := q9n.symm
      subst q9n
      have q9h := q9h.symm
      subst q9h
      refine v_iload dL_law_1400 rfl ?_
      refine w_icmp_same 1407 dL_law_1402 (by decide) ?_
      refine v_goto 1791 dL_law_1407 (by decide) ?_
      refine w_sub (lv2 := [(0, .ref 1000), (1, .ref 0), (2, .ref 47), (3, .ref 90), (4, .int (iI (i:Nat)))]) [1, 2, 3, 4, 5] rfl ?_
      exact kont _ _ _ ⟨wd, pt, tf, Q, qn, tc, L, _, _, hH, hM, h_90, hPL, hbb, htc, hQb.mono (by omega)⟩ (by omega) (by omega)
    | true =>
      have hx2 := hx
      rw [Bool.and_eq_true, Bool.and_eq_true] at hx2
      have hy := of_decide_eq_true hy
      by_cases hz : p4 = 0 ∨ (p2 + p4 ≤ 32 ∧ p3 + p4 ≤ 32)
      · skip
        obtain ⟨k, q1, hk⟩ := n_Q hx2.1
        subst q1
        obtain ⟨a1, q2, h1⟩ := n_P hx2.2.1
        subst q2
        obtain ⟨a2, q3, h2⟩ := n_P hx2.2.2
        subst q3
        obtain ⟨m, q4⟩ := n_n (p := p4) (by omega)
        subst q4
        have hm9 := md_a (Q := Q k) (na := qn k) (p := a1) (q := a2) hPL m (by omega)
        have hq9 := hQb k hk
        have hm8 : m * 2 ^ 480 ≤ 32 * 2 ^ 480 := Nat.mul_le_mul_right _ (by omega)
        refine v_aload_n dL_law_1338 rfl ?_
        refine v_aload_n dL_law_1339 rfl ?_
        refine v_iload dL_law_1340 rfl ?_
        refine v_iconst (iI 1) dL_law_1342 rfl ?_
        refine w_iadd dL_law_1343 ?_
        refine w_sld hSc (by decide) dL_law_1344 (i + 1) (by omega) (by omega) e1 ?_
        refine v_aload_n dL_law_1345 rfl ?_
        refine v_iload dL_law_1346 rfl ?_
        refine v_iconst (iI 2) dL_law_1348 rfl ?_
        refine w_iadd dL_law_1349 ?_
        refine w_sld hSc (by decide) dL_law_1350 (i + 2) (by omega) (by omega) e2 ?_
        refine v_aload_n dL_law_1351 rfl ?_
        refine v_iload dL_law_1352 rfl ?_
        refine v_iconst (iI 3) dL_law_1354 rfl ?_
        refine w_iadd dL_law_1355 ?_
        refine w_sld hSc (by decide) dL_law_1356 (i + 3) (by omega) (by omega) e3 ?_
        refine v_aload_n dL_law_1357 rfl ?_
        refine v_iload dL_law_1358 rfl ?_
        refine v_iconst (iI 4) dL_law_1360 rfl ?_
        refine w_iadd dL_law_1361 ?_
        refine w_sld hSc (by decide) dL_law_1362 (i + 4) (by omega) (by omega) e4 ?_
        refine v_cSW (av := [.ref 0, .int (iI (k:Nat)), .int (iI (a1:Nat)), .int (iI (a2:Nat)), .int (iI (m:Nat))]) (st := []) hE zyL_dot lL_177 (q_dot hH hPL hk h1 h2 (by omega) (by omega)) dL_law_1363 rfl rfl (Nat.le_of_ble_eq_true rfl) (by omega) (by omega) (by omega) (Or.inl (fun _ _ _ q => ZN q)) (fun r9 G1 n9 q9 => ?_)
        obtain ⟨rfl, q9n, hH, fr1⟩ := q9
        have q9n := q9n.symm
        subst q9n
        have hM := hM.fr fr1 (by decide)
        have h_90 := (fr1 90 (by decide)).trans h_90
        obtain ⟨_, _, _, _, _, _, _, _, _, _, _, _, h_47, -⟩ := id hM
        refine v_istore (i := 5) (lv' := [(5, .int (iI 0)), (0, .ref 1000), (1, .ref 0), (2, .ref 47), (3, .ref 90), (4, .int (iI (i:Nat)))]) dL_law_1366 (by decide) rfl ?_
        refine v_aload_n dL_law_1368 rfl ?_
        refine v_aload_n dL_law_1369 rfl ?_
        refine v_iload dL_law_1370 rfl ?_
        refine v_iconst (iI 1) dL_law_1372 rfl ?_
        refine w_iadd dL_law_1373 ?_
        refine w_sld hSc (by decide) dL_law_1374 (i + 1) (by omega) (by omega) e1 ?_
        refine v_aload_n dL_law_1375 rfl ?_
        refine v_iload dL_law_1376 rfl ?_
        refine v_iconst (iI 2) dL_law_1378 rfl ?_
        refine w_iadd dL_law_1379 ?_
        refine w_sld hSc (by decide) dL_law_1380 (i + 2) (by omega) (by omega) e2 ?_
        refine v_aload_n dL_law_1381 rfl ?_
        refine v_iload dL_law_1382 rfl ?_
        refine v_iconst (iI 3) dL_law_1384 rfl ?_
        refine w_iadd dL_law_1385 ?_
        refine w_sld hSc (by decide) dL_law_1386 (i + 3) (by omega) (by omega) e3 ?_
        refine v_aload_n dL_law_1387 rfl ?_
        refine v_iload dL_law_1388 rfl ?_
        refine v_iconst (iI 4) dL_law_1390 rfl ?_
        refine w_iadd dL_law_1391 ?_
        refine w_sld hSc (by decide) dL_law_1392 (i + 4) (by omega) (by omega) e4 ?_
        refine v_cV (av := [.int (iI (k:Nat)), .int (iI (a1:Nat)), .int (iI (a2:Nat)), .int (iI (m:Nat))]) (st := []) zyX11_dot lL_180 h_47 rfl (p_Mdot (d := 10) hM hPL hk h1 h2 (by omega) (by omega) (hQb.n5 hN hk).2 (by decide)) dL_law_1393 rfl rfl (Nat.le_of_ble_eq_true rfl) (by omega) (by omega) (by omega) (Or.inl (fun _ _ _ q => ZN q)) (fun r9 G2 n9 q9 => ?_)
        obtain ⟨rfl, q9n, hM, fr2⟩ := q9
        have q9n := q9n.symm
        subst q9n
        have hH := hH.fr fr2 (by decide)
        have h_90 := (fr2 90 (by decide)).trans h_90
        obtain ⟨_, _, _, _, _, _, _, _, _, _, _, _, h_47, -⟩ := id hM
        refine v_aload_n dL_law_1396 rfl ?_
        refine v_cV (av := []) (st := []) zyX11_thrown lL_111 h_47 rfl (p_thrown (d := 10) hM) dL_law_1397 rfl rfl (Nat.le_of_ble_eq_true rfl) (by omega) (by omega) (by omega) (Or.inl (fun _ _ _ q => ZN q)) (fun r9 K1 n9 q9 => ?_)
        obtain ⟨rfl, q9n, q9h⟩ := q9
        have q9n := q9n.symm
        subst q9n
        have q9h := q9h.symm
        subst q9h
        refine v_iload dL_law_1400 rfl ?_
        refine w_icmp_same 1407 dL_law_1402 (by decide) ?_
        refine v_goto 1791 dL_law_1407 (by decide) ?_
        refine w_sub (lv2 := [(0, .ref 1000), (1, .ref 0), (2, .ref 47), (3, .ref 90), (4, .int (iI (i:Nat)))]) [1, 2, 3, 4, 5] rfl ?_
        exact kont _ _ _ ⟨wd, pt, tf, zup Q k (mdt wd pt (Q k) (qn k) a1 a2 m).1, zup qn k (mdt wd pt (Q k) (qn k) a1 a2 m).2, tc, L, _, _, hH, hM, h_90, hPL, hbb, htc, (hQb.mono (by omega)).up (by rw [Nat.add_mul]; omega)⟩ (by omega) (by omega)
      · have hb1 := hx2.1
        have hb2 := hx2.2.1
        have hb3 := hx2.2.2
        obtain ⟨k, q1, hk⟩ := n_Q hx2.1
        subst q1
        obtain ⟨a1, q2, h1⟩ := n_P hx2.2.1
        subst q2
        obtain ⟨a2, q3, h2⟩ := n_P hx2.2.2
        subst q3
        obtain ⟨m, q4⟩ := n_n (p := p4) (by omega)
        subst q4
        refine v_aload_n dL_law_1338 rfl ?_
        refine v_aload_n dL_law_1339 rfl ?_
        refine v_iload dL_law_1340 rfl ?_
        refine v_iconst (iI 1) dL_law_1342 rfl ?_
        refine w_iadd dL_law_1343 ?_
        refine w_sld hSc (by decide) dL_law_1344 (i + 1) (by omega) (by omega) e1 ?_
        refine v_aload_n dL_law_1345 rfl ?_
        refine v_iload dL_law_1346 rfl ?_
        refine v_iconst (iI 2) dL_law_1348 rfl ?_
        refine w_iadd dL_law_1349 ?_
        refine w_sld hSc (by decide) dL_law_1350 (i + 2) (by omega) (by omega) e2 ?_
        refine v_aload_n dL_law_1351 rfl ?_
        refine v_iload dL_law_1352 rfl ?_
        refine v_iconst (iI 3) dL_law_1354 rfl ?_
        refine w_iadd dL_law_1355 ?_
        refine w_sld hSc (by decide) dL_law_1356 (i + 3) (by omega) (by omega) e3 ?_
        refine v_aload_n dL_law_1357 rfl ?_
        refine v_iload dL_law_1358 rfl ?_
        refine v_iconst (iI 4) dL_law_1360 rfl ?_
        refine w_iadd dL_law_1361 ?_
        refine w_sld hSc (by decide) dL_law_1362 (i + 4) (by omega) (by omega) e4 ?_
        refine v_cSW (av := [.ref 0, .int (iI (k:Nat)), .int (iI (a1:Nat)), .int (iI (a2:Nat)), .int (iI (m:Nat))]) (st := []) hE zyL_dot lL_177 (q_dotJ hH r1 r2 r3 r4 hb1 hb2 hb3 (by omega) (by omega)) dL_law_1363 rfl rfl (Nat.le_of_ble_eq_true rfl) (by omega) (by omega) (by omega) (Or.inl (fun _ _ _ q => ZN q)) (fun r9 G1 n9 q9 => ?_)
        obtain ⟨rfl, q9n, hH, fr1⟩ := q9
        have q9n := q9n.symm
        subst q9n
        have hM := hM.fr fr1 (by decide)
        have h_90 := (fr1 90 (by decide)).trans h_90
        obtain ⟨_, _, _, _, _, _, _, _, _, _, _, _, h_47, -⟩ := id hM
        refine v_istore (i := 5) (lv' := [(5, .int (iI 1)), (0, .ref 1000), (1, .ref 0), (2, .ref 47), (3, .ref 90), (4, .int (iI (i:Nat)))]) dL_law_1366 (by decide) rfl ?_
        refine v_aload_n dL_law_1368 rfl ?_
        refine v_aload_n dL_law_1369 rfl ?_
        refine v_iload dL_law_1370 rfl ?_
        refine v_iconst (iI 1) dL_law_1372 rfl ?_
        refine w_iadd dL_law_1373 ?_
        refine w_sld hSc (by decide) dL_law_1374 (i + 1) (by omega) (by omega) e1 ?_
        refine v_aload_n dL_law_1375 rfl ?_
        refine v_iload dL_law_1376 rfl ?_
        refine v_iconst (iI 2) dL_law_1378 rfl ?_
        refine w_iadd dL_law_1379 ?_
        refine w_sld hSc (by decide) dL_law_1380 (i + 2) (by omega) (by omega) e2 ?_
        refine v_aload_n dL_law_1381 rfl ?_
        refine v_iload dL_law_1382 rfl ?_
        refine v_iconst (iI 3) dL_law_1384 rfl ?_
        refine w_iadd dL_law_1385 ?_
        refine w_sld hSc (by decide) dL_law_1386 (i + 3) (by omega) (by omega) e3 ?_
        refine v_aload_n dL_law_1387 rfl ?_
        refine v_iload dL_law_1388 rfl ?_
        refine v_iconst (iI 4) dL_law_1390 rfl ?_
        refine w_iadd dL_law_1391 ?_
        refine w_sld hSc (by decide) dL_law_1392 (i + 4) (by omega) (by omega) e4 ?_
        refine v_cV (av := [.int (iI (k:Nat)), .int (iI (a1:Nat)), .int (iI (a2:Nat)), .int (iI (m:Nat))]) (st := []) zyX11_dot lL_180 h_47 rfl (p_Mdoty (d := 10) hM hk h1 h2 (by omega) (by omega) (by decide)) dL_law_1393 rfl rfl (Nat.le_of_ble_eq_true rfl) (by omega) (by omega) (by omega) (Or.inl (fun _ _ _ q => ZN q)) (fun r9 G2 n9 q9 => ?_)
        obtain ⟨rfl, q9n, hM, fr2⟩ := q9
        have q9n := q9n.symm
        subst q9n
        have hH := hH.fr fr2 (by decide)
        have h_90 := (fr2 90 (by decide)).trans h_90
        obtain ⟨_, _, _, _, _, _, _, _, _, _, _, _, h_47, -⟩ := id hM
        refine v_aload_n dL_law_1396 rfl ?_
        refine v_cV (av := []) (st := []) zyX11_thrown lL_111 h_47 rfl (p_thrown (d := 10) hM) dL_law_1397 rfl rfl (Nat.le_of_ble_eq_true rfl) (by omega) (by omega) (by omega) (Or.inl (fun _ _ _ q => ZN q)) (fun r9 K1 n9 q9 => ?_)
        obtain ⟨rfl, q9n, q9h⟩ := q9
        have q9n := q9n.symm
        subst q9n
        have q9h := q9h.symm
        subst q9h
        refine v_iload dL_law_1400 rfl ?_
        refine w_icmp_same 1407 dL_law_1402 (by decide) ?_
        refine v_goto 1791 dL_law_1407 (by decide) ?_
        refine w_sub (lv2 := [(0, .ref 1000), (1, .ref 0), (2, .ref 47), (3, .ref 90), (4, .int (iI (i:Nat)))]) [1, 2, 3, 4, 5] rfl ?_
        exact kont _ _ _ ⟨wd, pt, tf, Q, qn, tc, L, _, _, hH, hM, h_90, hPL, hbb, htc, hQb.mono (by omega)⟩ (by omega) (by omega)
set_option maxHeartbeats 8000000 in
set_option maxRecDepth 100000 in
theorem c_settle {X : zX} {i cells slots N L9 : Nat} {sc : Nat → Int} {h : zH} (hE : zLE X) (hSc : zSc X L9 sc) (hi : i + 6 ≤ L9) (hc : cells + 2 ≤ 601024) (hs : slots + 9 ≤ 7293034) (hN : N ≤ 20000) (hI : LI h N)
    (kont : ∀ (h' : zH) (c' s' : Nat), LI h' (N + 32) → c' ≤ cells + 2 → s' ≤ slots + 9 → zV X PLW cL_law 8 RL (some .boolean) 11 601024 7293034 1791 [(0, .ref 1000), (1, .ref 0), (2, .ref 47), (3, .ref 90), (4, .int (iI (i:Nat)))] [] h' 91 c' s') :
    (zV X (PLW) cL_law 8 RL (some .boolean) 11 601024 7293034 1410 [(0, .ref 1000), (1, .ref 0), (2, .ref 47), (3, .ref 90), (4, .int (iI (i:Nat)))] [] h 91 cells slots) := by
  have hL9 := hSc.l
  obtain ⟨wd, pt, tf, Q, qn, tc, L, th, g, hH, hM, h_90, hPL, hbb, htc, hQb⟩ := id hI
  obtain ⟨p1, e1⟩ : ∃ p, sc (i + 1) = p := ⟨_, rfl⟩
  have r1 := hSc.r (i + 1)
  rw [e1] at r1
  obtain ⟨p2, e2⟩ : ∃ p, sc (i + 2) = p := ⟨_, rfl⟩
  have r2 := hSc.r (i + 2)
  rw [e2] at r2
  cases hx : (isQ p1 && isP p2) with
  | false =>
    refine v_aload_n dL_law_1410 rfl ?_
    refine v_aload_n dL_law_1411 rfl ?_
    refine v_iload dL_law_1412 rfl ?_
    refine v_iconst (iI 1) dL_law_1414 rfl ?_
    refine w_iadd dL_law_1415 ?_
    refine w_sld hSc (by decide) dL_law_1416 (i + 1) (by omega) (by omega) e1 ?_
    refine v_aload_n dL_law_1417 rfl ?_
    refine v_iload dL_law_1418 rfl ?_
    refine v_iconst (iI 2) dL_law_1420 rfl ?_
    refine w_iadd dL_law_1421 ?_
    refine w_sld hSc (by decide) dL_law_1422 (i + 2) (by omega) (by omega) e2 ?_
    refine v_cSW (av := [.ref 0, .int (iI p1), .int (iI p2)]) (st := []) hE zyL_settle lL_181 (q_settleI hH r1 r2 hx) dL_law_1423 rfl rfl (Nat.le_of_ble_eq_true rfl) (by omega) (by omega) (by omega) (Or.inl (fun _ _ _ q => ZN q)) (fun r9 G1 n9 q9 => ?_)
    obtain ⟨rfl, q9n, hH, fr1⟩ := q9
    have q9n := q9n.symm
    subst q9n
    have hM := hM.fr fr1 (by decide)
    have h_90 := (fr1 90 (by decide)).trans h_90
    obtain ⟨_, _, _, _, _, _, _, _, _, _, _, _, h_47, -⟩ := id hM
    refine v_istore (i := 5) (lv' := [(5, .int (iI 1)), (0, .ref 1000), (1, .ref 0), (2, .ref 47), (3, .ref 90), (4, .int (iI (i:Nat)))]) dL_law_1426 (by decide) rfl ?_
    refine v_aload_n dL_law_1428 rfl ?_
    refine v_aload_n dL_law_1429 rfl ?_
    refine v_iload dL_law_1430 rfl ?_
    refine v_iconst (iI 1) dL_law_1432 rfl ?_
    refine w_iadd dL_law_1433 ?_
    refine w_sld hSc (by decide) dL_law_1434 (i + 1) (by omega) (by omega) e1 ?_
    refine v_aload_n dL_law_1435 rfl ?_
    refine v_iload dL_law_1436 rfl ?_
    refine v_iconst (iI 2) dL_law_1438 rfl ?_
    refine w_iadd dL_law_1439 ?_
    refine w_sld hSc (by decide) dL_law_1440 (i + 2) (by omega) (by omega) e2 ?_
    refine v_cV (av := [.int (iI p1), .int (iI p2)]) (st := []) zyX11_settle lL_183 h_47 rfl (p_Msettlex (d := 10) hM r1 r2 (by rw [hx]; rfl) (by decide)) dL_law_1441 rfl rfl (Nat.le_of_ble_eq_true rfl) (by omega) (by omega) (by omega) (Or.inl (fun _ _ _ q => ZN q)) (fun r9 G2 n9 q9 => ?_)
    obtain ⟨rfl, q9n, hM, fr2⟩ := q9
    have q9n := q9n.symm
    subst q9n
    have hH := hH.fr fr2 (by decide)
    have h_90 := (fr2 90 (by decide)).trans h_90
    rw [show thr (isQ p1 && isP p2) true = 1 from by rw [hx]; rfl] at hM
    obtain ⟨_, _, _, _, _, _, _, _, _, _, _, _, h_47, -⟩ := id hM
    refine v_aload_n dL_law_1444 rfl ?_
    refine v_cV (av := []) (st := []) zyX11_thrown lL_111 h_47 rfl (p_thrown (d := 10) hM) dL_law_1445 rfl rfl (Nat.le_of_ble_eq_true rfl) (by omega) (by omega) (by omega) (Or.inl (fun _ _ _ q => ZN q)) (fun r9 K1 n9 q9 => ?_)
    obtain ⟨rfl, q9n, q9h⟩ := q9
    have q9n := q9n.symm
    subst q9n
    have q9h := q9h.symm
    subst q9h
    refine v_iload dL_law_1448 rfl ?_
    refine w_icmp_same 1455 dL_law_1450 (by decide) ?_
    refine v_goto 1791 dL_law_1455 (by decide) ?_
    refine w_sub (lv2 := [(0, .ref 1000), (1, .ref 0), (2, .ref 47), (3, .ref 90), (4, .int (iI (i:Nat)))]) [1, 2, 3, 4, 5] rfl ?_
    exact kont _ _ _ ⟨wd, pt, tf, Q, qn, tc, L, _, _, hH, hM, h_90, hPL, hbb, htc, hQb.mono (by omega)⟩ (by omega) (by omega)
  | true =>
    rw [Bool.and_eq_true] at hx
    obtain ⟨k, q1, hk⟩ := n_Q hx.1
    subst q1
    obtain ⟨a3, q2, h3⟩ := n_P hx.2
    subst q2
    refine v_aload_n dL_law_1410 rfl ?_
    refine v_aload_n dL_law_1411 rfl ?_
    refine v_iload dL_law_1412 rfl ?_
    refine v_iconst (iI 1) dL_law_1414 rfl ?_
    refine w_iadd dL_law_1415 ?_
    refine w_sld hSc (by decide) dL_law_1416 (i + 1) (by omega) (by omega) e1 ?_
    refine v_aload_n dL_law_1417 rfl ?_
    refine v_iload dL_law_1418 rfl ?_
    refine v_iconst (iI 2) dL_law_1420 rfl ?_
    refine w_iadd dL_law_1421 ?_
    refine w_sld hSc (by decide) dL_law_1422 (i + 2) (by omega) (by omega) e2 ?_
    refine v_cSW (av := [.ref 0, .int (iI (k:Nat)), .int (iI (a3:Nat))]) (st := []) hE zyL_settle lL_181 (q_settle hH hPL hk h3 (hQb.n5 hN hk).1) dL_law_1423 rfl rfl (Nat.le_of_ble_eq_true rfl) (by omega) (by omega) (by omega) (Or.inl (fun _ _ _ q => ZN q)) (fun r9 G1 n9 q9 => ?_)
    obtain ⟨rfl, q9n, hH, fr1⟩ := q9
    have q9n := q9n.symm
    subst q9n
    have hM := hM.fr fr1 (by decide)
    have h_90 := (fr1 90 (by decide)).trans h_90
    obtain ⟨_, _, _, _, _, _, _, _, _, _, _, _, h_47, -⟩ := id hM
    refine v_istore (i := 5) (lv' := [(5, .int (iI 0)), (0, .ref 1000), (1, .ref 0), (2, .ref 47), (3, .ref 90), (4, .int (iI (i:Nat)))]) dL_law_1426 (by decide) rfl ?_
    refine v_aload_n dL_law_1428 rfl ?_
    refine v_aload_n dL_law_1429 rfl ?_
    refine v_iload dL_law_1430 rfl ?_
    refine v_iconst (iI 1) dL_law_1432 rfl ?_
    refine w_iadd dL_law_1433 ?_
    refine w_sld hSc (by decide) dL_law_1434 (i + 1) (by omega) (by omega) e1 ?_
    refine v_aload_n dL_law_1435 rfl ?_
    refine v_iload dL_law_1436 rfl ?_
    refine v_iconst (iI 2) dL_law_1438 rfl ?_
    refine w_iadd dL_law_1439 ?_
    refine w_sld hSc (by decide) dL_law_1440 (i + 2) (by omega) (by omega) e2 ?_
    refine v_cV (av := [.int (iI (k:Nat)), .int (iI (a3:Nat))]) (st := []) zyX11_settle lL_183 h_47 rfl (p_Msettle (d := 10) hM hPL hk h3 (Nat.le_trans (hQb.n5 hN hk).2 (by decide)) (by decide)) dL_law_1441 rfl rfl (Nat.le_of_ble_eq_true rfl) (by omega) (by omega) (by omega) (Or.inl (fun _ _ _ q => ZN q)) (fun r9 G2 n9 q9 => ?_)
    obtain ⟨rfl, q9n, hM, fr2⟩ := q9
    have q9n := q9n.symm
    subst q9n
    have hH := hH.fr fr2 (by decide)
    have h_90 := (fr2 90 (by decide)).trans h_90
    obtain ⟨_, _, _, _, _, _, _, _, _, _, _, _, h_47, -⟩ := id hM
    refine v_aload_n dL_law_1444 rfl ?_
    refine v_cV (av := []) (st := []) zyX11_thrown lL_111 h_47 rfl (p_thrown (d := 10) hM) dL_law_1445 rfl rfl (Nat.le_of_ble_eq_true rfl) (by omega) (by omega) (by omega) (Or.inl (fun _ _ _ q => ZN q)) (fun r9 K1 n9 q9 => ?_)
    obtain ⟨rfl, q9n, q9h⟩ := q9
    have q9n := q9n.symm
    subst q9n
    have q9h := q9h.symm
    subst q9h
    refine v_iload dL_law_1448 rfl ?_
    refine w_icmp_same 1455 dL_law_1450 (by decide) ?_
    refine v_goto 1791 dL_law_1455 (by decide) ?_
    refine w_sub (lv2 := [(0, .ref 1000), (1, .ref 0), (2, .ref 47), (3, .ref 90), (4, .int (iI (i:Nat)))]) [1, 2, 3, 4, 5] rfl ?_
    exact kont _ _ _ ⟨wd, zup pt a3 (mse wd (Q k) (qn k) a3), tf, Q, qn, tc, L, _, _, hH, hM, h_90, hPL.up (mse_lt (hPL a3 h3).1), hbb, htc, hQb.mono (by omega)⟩ (by omega) (by omega)
set_option maxHeartbeats 8000000 in
set_option maxRecDepth 100000 in
theorem c_image {X : zX} {i cells slots N L9 : Nat} {sc : Nat → Int} {h : zH} (hE : zLE X) (hSc : zSc X L9 sc) (hi : i + 6 ≤ L9) (hc : cells + 2 ≤ 601024) (hs : slots + 9 ≤ 7293034) (hN : N ≤ 20000) (hI : LI h N)
    (kont : ∀ (h' : zH) (c' s' : Nat), LI h' (N + 32) → c' ≤ cells + 2 → s' ≤ slots + 9 → zV X PLW cL_law 8 RL (some .boolean) 11 601024 7293034 1791 [(0, .ref 1000), (1, .ref 0), (2, .ref 47), (3, .ref 90), (4, .int (iI (i:Nat)))] [] h' 91 c' s') :
    (zV X (PLW) cL_law 8 RL (some .boolean) 11 601024 7293034 1458 [(0, .ref 1000), (1, .ref 0), (2, .ref 47), (3, .ref 90), (4, .int (iI (i:Nat)))] [] h 91 cells slots) := by
  have hL9 := hSc.l
  obtain ⟨wd, pt, tf, Q, qn, tc, L, th, g, hH, hM, h_90, hPL, hbb, htc, hQb⟩ := id hI
  obtain ⟨p1, e1⟩ : ∃ p, sc (i + 1) = p := ⟨_, rfl⟩
  have r1 := hSc.r (i + 1)
  rw [e1] at r1
  obtain ⟨p2, e2⟩ : ∃ p, sc (i + 2) = p := ⟨_, rfl⟩
  have r2 := hSc.r (i + 2)
  rw [e2] at r2
  cases hx : isQ p1 with
  | false =>
    refine v_aload_n dL_law_1458 rfl ?_
    refine v_aload_n dL_law_1459 rfl ?_
    refine v_iload dL_law_1460 rfl ?_
    refine v_iconst (iI 1) dL_law_1462 rfl ?_
    refine w_iadd dL_law_1463 ?_
    refine w_sld hSc (by decide) dL_law_1464 (i + 1) (by omega) (by omega) e1 ?_
    refine v_aload_n dL_law_1465 rfl ?_
    refine v_iload dL_law_1466 rfl ?_
    refine v_iconst (iI 2) dL_law_1468 rfl ?_
    refine w_iadd dL_law_1469 ?_
    refine w_sld hSc (by decide) dL_law_1470 (i + 2) (by omega) (by omega) e2 ?_
    refine v_aload_n dL_law_1471 rfl ?_
    refine v_cSW (av := [.ref 0, .int (iI p1), .int (iI p2), .ref 90]) (st := []) hE zyL_image lL_184 (q_imageI hH r1 r2 hx) dL_law_1472 rfl rfl (Nat.le_of_ble_eq_true rfl) (by omega) (by omega) (by omega) (Or.inl (fun _ _ _ q => ZN q)) (fun r9 G1 n9 q9 => ?_)
    obtain ⟨rfl, q9n, hH, fr1⟩ := q9
    have q9n := q9n.symm
    subst q9n
    have hM := hM.fr fr1 (by decide)
    have h_90 := (fr1 90 (by decide)).trans h_90
    obtain ⟨_, _, _, _, _, _, _, _, _, _, _, _, h_47, -⟩ := id hM
    refine v_istore (i := 5) (lv' := [(5, .int (iI 1)), (0, .ref 1000), (1, .ref 0), (2, .ref 47), (3, .ref 90), (4, .int (iI (i:Nat)))]) dL_law_1475 (by decide) rfl ?_
    refine v_aload_n dL_law_1477 rfl ?_
    refine v_aload_n dL_law_1478 rfl ?_
    refine v_iload dL_law_1479 rfl ?_
    refine v_iconst (iI 1) dL_law_1481 rfl ?_
    refine w_iadd dL_law_1482 ?_
    refine w_sld hSc (by decide) dL_law_1483 (i + 1) (by omega) (by omega) e1 ?_
    refine v_aload_n dL_law_1484 rfl ?_
    refine v_iload dL_law_1485 rfl ?_
    refine v_iconst (iI 2) dL_law_1487 rfl ?_
    refine w_iadd dL_law_1488 ?_
    refine w_sld hSc (by decide) dL_law_1489 (i + 2) (by omega) (by omega) e2 ?_
    refine v_cV (av := [.int (iI p1), .int (iI p2)]) (st := []) zyX11_image lL_186 h_47 rfl (p_Mimagex (d := 10) hM r1 r2 (by rw [hx]; rfl) (by decide)) dL_law_1490 rfl rfl (Nat.le_of_ble_eq_true rfl) (by omega) (by omega) (by omega) (Or.inl (fun _ _ _ q => ZN q)) (fun r9 G2 n9 q9 => ?_)
    obtain ⟨rfl, q9n, hM, fr2⟩ := q9
    have q9n := q9n.symm
    subst q9n
    have hH := hH.fr fr2 (by decide)
    have h_90 := (fr2 90 (by decide)).trans h_90
    rw [show thr (isQ p1) (decide (0 ≤ p2 ∧ p2 < 16)) = 1 from by rw [hx]; rfl] at hM
    obtain ⟨_, _, _, _, _, _, _, _, _, _, _, _, h_47, -⟩ := id hM
    refine v_istore (i := 6) (lv' := [(6, .int (iI 0)), (5, .int (iI 1)), (0, .ref 1000), (1, .ref 0), (2, .ref 47), (3, .ref 90), (4, .int (iI (i:Nat)))]) dL_law_1493 (by decide) rfl ?_
    refine v_aload_n dL_law_1495 rfl ?_
    refine v_cV (av := []) (st := []) zyX11_thrown lL_111 h_47 rfl (p_thrown (d := 10) hM) dL_law_1496 rfl rfl (Nat.le_of_ble_eq_true rfl) (by omega) (by omega) (by omega) (Or.inl (fun _ _ _ q => ZN q)) (fun r9 K1 n9 q9 => ?_)
    obtain ⟨rfl, q9n, q9h⟩ := q9
    have q9n := q9n.symm
    subst q9n
    have q9h := q9h.symm
    subst q9h
    refine v_iload dL_law_1499 rfl ?_
    refine w_icmp_same 1506 dL_law_1501 (by decide) ?_
    refine v_iload dL_law_1506 rfl ?_
    refine w_if_ne 1523 dL_law_1508 (by decide) (by decide) (fun c8 => ?_) (fun c8 => ?_)
    · skip
      refine v_goto 1791 dL_law_1523 (by decide) ?_
      refine w_sub (lv2 := [(0, .ref 1000), (1, .ref 0), (2, .ref 47), (3, .ref 90), (4, .int (iI (i:Nat)))]) [2, 3, 4, 5, 6] rfl ?_
      exact kont _ _ _ ⟨wd, pt, tf, Q, qn, tc, L, _, _, hH, hM, h_90, hPL, hbb, htc, hQb.mono (by omega)⟩ (by omega) (by omega)
    · exact absurd c8 (by decide)
  | true =>
    cases hy : decide (0 ≤ p2 ∧ p2 < 16) with
    | false =>
      refine v_aload_n dL_law_1458 rfl ?_
      refine v_aload_n dL_law_1459 rfl ?_
      refine v_iload dL_law_1460 rfl ?_
      refine v_iconst (iI 1) dL_law_1462 rfl ?_
      refine w_iadd dL_law_1463 ?_
      refine w_sld hSc (by decide) dL_law_1464 (i + 1) (by omega) (by omega) e1 ?_
      refine v_aload_n dL_law_1465 rfl ?_
      refine v_iload dL_law_1466 rfl ?_
      refine v_iconst (iI 2) dL_law_1468 rfl ?_
      refine w_iadd dL_law_1469 ?_
      refine w_sld hSc (by decide) dL_law_1470 (i + 2) (by omega) (by omega) e2 ?_
      refine v_aload_n dL_law_1471 rfl ?_
      refine v_cSW (av := [.ref 0, .int (iI p1), .int (iI p2), .ref 90]) (st := []) hE zyL_image lL_184 (q_imageA hH r1 r2 hx (of_decide_eq_false hy)) dL_law_1472 rfl rfl (Nat.le_of_ble_eq_true rfl) (by omega) (by omega) (by omega) (Or.inl (fun _ _ _ q => ZN q)) (fun r9 G1 n9 q9 => ?_)
      obtain ⟨rfl, q9n, hH, fr1⟩ := q9
      have q9n := q9n.symm
      subst q9n
      have hM := hM.fr fr1 (by decide)
      have h_90 := (fr1 90 (by decide)).trans h_90
      obtain ⟨_, _, _, _, _, _, _, _, _, _, _, _, h_47, -⟩ := id hM
      refine v_istore (i := 5) (lv' := [(5, .int (iI 2)), (0, .ref 1000), (1, .ref 0), (2, .ref 47), (3, .ref 90), (4, .int (iI (i:Nat)))]) dL_law_1475 (by decide) rfl ?_
      refine v_aload_n dL_law_1477 rfl ?_
      refine v_aload_n dL_law_1478 rfl ?_
      refine v_iload dL_law_1479 rfl ?_
      refine v_iconst (iI 1) dL_law_1481 rfl ?_
      refine w_iadd dL_law_1482 ?_
      refine w_sld hSc (by decide) dL_law_1483 (i + 1) (by omega) (by omega) e1 ?_
      refine v_aload_n dL_law_1484 rfl ?_
      refine v_iload dL_law_1485 rfl ?_
      refine v_iconst (iI 2) dL_law_1487 rfl ?_
      refine w_iadd dL_law_1488 ?_
      refine w_sld hSc (by decide) dL_law_1489 (i + 2) (by omega) (by omega) e2 ?_
      refine v_cV (av := [.int (iI p1), .int (iI p2)]) (st := []) zyX11_image lL_186 h_47 rfl (p_Mimagex (d := 10) hM r1 r2 (by rw [hx, hy]; rfl) (by decide)) dL_law_1490 rfl rfl (Nat.le_of_ble_eq_true rfl) (by omega) (by omega) (by omega) (Or.inl (fun _ _ _ q => ZN q)) (fun r9 G2 n9 q9 => ?_)
      obtain ⟨rfl, q9n, hM, fr2⟩ := q9
      have q9n := q9n.symm
      subst q9n
      have hH := hH.fr fr2 (by decide)
      have h_90 := (fr2 90 (by decide)).trans h_90
      rw [show thr (isQ p1) (decide (0 ≤ p2 ∧ p2 < 16)) = 2 from by rw [hx, hy]; rfl] at hM
      obtain ⟨_, _, _, _, _, _, _, _, _, _, _, _, h_47, -⟩ := id hM
      refine v_istore (i := 6) (lv' := [(6, .int (iI 0)), (5, .int (iI 2)), (0, .ref 1000), (1, .ref 0), (2, .ref 47), (3, .ref 90), (4, .int (iI (i:Nat)))]) dL_law_1493 (by decide) rfl ?_
      refine v_aload_n dL_law_1495 rfl ?_
      refine v_cV (av := []) (st := []) zyX11_thrown lL_111 h_47 rfl (p_thrown (d := 10) hM) dL_law_1496 rfl rfl (Nat.le_of_ble_eq_true rfl) (by omega) (by omega) (by omega) (Or.inl (fun _ _ _ q => ZN q)) (fun r9 K1 n9 q9 => ?_)
      obtain ⟨rfl, q9n, q9h⟩ := q9
      have q9n := q9n.symm
      subst q9n
      have q9h := q9h.symm
      subst q9h
      refine v_iload dL_law_1499 rfl ?_
      refine w_icmp_same 1506 dL_law_1501 (by decide) ?_
      refine v_iload dL_law_1506 rfl ?_
      refine w_if_ne 1523 dL_law_1508 (by decide) (by decide) (fun c8 => ?_) (fun c8 => ?_)
      · skip
        refine v_goto 1791 dL_law_1523 (by decide) ?_
        refine w_sub (lv2 := [(0, .ref 1000), (1, .ref 0), (2, .ref 47), (3, .ref 90), (4, .int (iI (i:Nat)))]) [2, 3, 4, 5, 6] rfl ?_
        exact kont _ _ _ ⟨wd, pt, tf, Q, qn, tc, L, _, _, hH, hM, h_90, hPL, hbb, htc, hQb.mono (by omega)⟩ (by omega) (by omega)
      · exact absurd c8 (by decide)
    | true =>
      have hy := of_decide_eq_true hy
      obtain ⟨k, q1, hk⟩ := n_Q hx
      subst q1
      obtain ⟨j, q2⟩ := n_n (p := p2) (by omega)
      subst q2
      refine v_aload_n dL_law_1458 rfl ?_
      refine v_aload_n dL_law_1459 rfl ?_
      refine v_iload dL_law_1460 rfl ?_
      refine v_iconst (iI 1) dL_law_1462 rfl ?_
      refine w_iadd dL_law_1463 ?_
      refine w_sld hSc (by decide) dL_law_1464 (i + 1) (by omega) (by omega) e1 ?_
      refine v_aload_n dL_law_1465 rfl ?_
      refine v_iload dL_law_1466 rfl ?_
      refine v_iconst (iI 2) dL_law_1468 rfl ?_
      refine w_iadd dL_law_1469 ?_
      refine w_sld hSc (by decide) dL_law_1470 (i + 2) (by omega) (by omega) e2 ?_
      refine v_aload_n dL_law_1471 rfl ?_
      refine v_cSW (av := [.ref 0, .int (iI (k:Nat)), .int (iI (j:Nat)), .ref 90]) (st := []) hE zyL_image lL_184 (q_image hH h_90 hk (by omega)) dL_law_1472 rfl rfl (Nat.le_of_ble_eq_true rfl) (by omega) (by omega) (by omega) (Or.inl (fun _ _ _ q => ZN q)) (fun r9 G1 n9 q9 => ?_)
      obtain ⟨rfl, q9n, hH, h_90, fr1⟩ := q9
      have q9n := q9n.symm
      subst q9n
      have hM := hM.fr fr1 (by decide)
      obtain ⟨_, _, _, _, _, _, _, _, _, _, _, _, h_47, -⟩ := id hM
      refine v_istore (i := 5) (lv' := [(5, .int (iI 0)), (0, .ref 1000), (1, .ref 0), (2, .ref 47), (3, .ref 90), (4, .int (iI (i:Nat)))]) dL_law_1475 (by decide) rfl ?_
      refine v_aload_n dL_law_1477 rfl ?_
      refine v_aload_n dL_law_1478 rfl ?_
      refine v_iload dL_law_1479 rfl ?_
      refine v_iconst (iI 1) dL_law_1481 rfl ?_
      refine w_iadd dL_law_1482 ?_
      refine w_sld hSc (by decide) dL_law_1483 (i + 1) (by omega) (by omega) e1 ?_
      refine v_aload_n dL_law_1484 rfl ?_
      refine v_iload dL_law_1485 rfl ?_
      refine v_iconst (iI 2) dL_law_1487 rfl ?_
      refine w_iadd dL_law_1488 ?_
      refine w_sld hSc (by decide) dL_law_1489 (i + 2) (by omega) (by omega) e2 ?_
      refine v_cV (av := [.int (iI (k:Nat)), .int (iI (j:Nat))]) (st := []) zyX11_image lL_186 h_47 rfl (p_Mimage (d := 10) hM hk (by omega) (by decide)) dL_law_1490 rfl rfl (Nat.le_of_ble_eq_true rfl) (by omega) (by omega) (by omega) (Or.inl (fun _ _ _ q => ZN q)) (fun r9 G2 n9 q9 => ?_)
      obtain ⟨rfl, q9n, hM, fr2⟩ := q9
      have q9n := q9n.symm
      subst q9n
      have hH := hH.fr fr2 (by decide)
      have h_90 := (fr2 90 (by decide)).trans h_90
      obtain ⟨_, _, _, _, _, _, _, _, _, _, _, _, h_47, -⟩ := id hM
      refine v_istore (i := 6) (lv' := [(6, .int (iI (cond (qn k) (if j = 15 then -2147483648 else 0) (wat (q512 (Q k)) j : Nat)))), (5, .int (iI 0)), (0, .ref 1000), (1, .ref 0), (2, .ref 47), (3, .ref 90), (4, .int (iI (i:Nat)))]) dL_law_1493 (by decide) rfl ?_
      refine v_aload_n dL_law_1495 rfl ?_
      refine v_cV (av := []) (st := []) zyX11_thrown lL_111 h_47 rfl (p_thrown (d := 10) hM) dL_law_1496 rfl rfl (Nat.le_of_ble_eq_true rfl) (by omega) (by omega) (by omega) (Or.inl (fun _ _ _ q => ZN q)) (fun r9 K1 n9 q9 => ?_)
      obtain ⟨rfl, q9n, q9h⟩ := q9
      have q9n := q9n.symm
      subst q9n
      have q9h := q9h.symm
      subst q9h
      refine v_iload dL_law_1499 rfl ?_
      refine w_icmp_same 1506 dL_law_1501 (by decide) ?_
      refine v_iload dL_law_1506 rfl ?_
      refine w_if_ne 1523 dL_law_1508 (by decide) (by decide) (fun c8 => ?_) (fun c8 => ?_)
      · exact absurd rfl c8
      · skip
        refine v_aload_n dL_law_1511 rfl ?_
        refine v_iconst (iI 0) dL_law_1512 rfl ?_
        refine w_lald dL_law_1513 h_90 0 rfl (by decide) (by decide) ?_
        refine w_el (s32 (cond (qn k) (if j = 15 then -2147483648 else 0) (wat (q512 (Q k)) j : Nat))) (zup_same _ _ _) ?_
        refine v_iload dL_law_1514 rfl ?_
        refine w_topi (s32 (cond (qn k) (if j = 15 then -2147483648 else 0) (wat (q512 (Q k)) j : Nat))) (s32_m _) ?_
        refine w_i2l dL_law_1516 (s32_r _) ?_
        refine w_lcmp_same 1523 dL_law_1517 dL_law_1518 (by decide) ?_
        refine v_goto 1791 dL_law_1523 (by decide) ?_
        refine w_sub (lv2 := [(0, .ref 1000), (1, .ref 0), (2, .ref 47), (3, .ref 90), (4, .int (iI (i:Nat)))]) [2, 3, 4, 5, 6] rfl ?_
        exact kont _ _ _ ⟨wd, pt, tf, Q, qn, tc, L, _, _, hH, hM, h_90, hPL, hbb, htc, hQb.mono (by omega)⟩ (by omega) (by omega)
set_option maxHeartbeats 8000000 in
set_option maxRecDepth 100000 in
theorem c_feed {X : zX} {i cells slots N L9 : Nat} {sc : Nat → Int} {h : zH} (hE : zLE X) (hSc : zSc X L9 sc) (hi : i + 6 ≤ L9) (hc : cells + 2 ≤ 601024) (hs : slots + 9 ≤ 7293034) (hN : N ≤ 20000) (hI : LI h N)
    (kont : ∀ (h' : zH) (c' s' : Nat), LI h' (N + 32) → c' ≤ cells + 2 → s' ≤ slots + 9 → zV X PLW cL_law 8 RL (some .boolean) 11 601024 7293034 1791 [(0, .ref 1000), (1, .ref 0), (2, .ref 47), (3, .ref 90), (4, .int (iI (i:Nat)))] [] h' 91 c' s') :
    (zV X (PLW) cL_law 8 RL (some .boolean) 11 601024 7293034 1526 [(0, .ref 1000), (1, .ref 0), (2, .ref 47), (3, .ref 90), (4, .int (iI (i:Nat)))] [] h 91 cells slots) := by
  have hL9 := hSc.l
  obtain ⟨wd, pt, tf, Q, qn, tc, L, th, g, hH, hM, h_90, hPL, hbb, htc, hQb⟩ := id hI
  obtain ⟨p1, e1⟩ : ∃ p, sc (i + 1) = p := ⟨_, rfl⟩
  have r1 := hSc.r (i + 1)
  rw [e1] at r1
  obtain ⟨p2, e2⟩ : ∃ p, sc (i + 2) = p := ⟨_, rfl⟩
  have r2 := hSc.r (i + 2)
  rw [e2] at r2
  obtain ⟨p3, e3⟩ : ∃ p, sc (i + 3) = p := ⟨_, rfl⟩
  have r3 := hSc.r (i + 3)
  rw [e3] at r3
  cases hx : fdOk tc p3 with
  | false =>
    refine v_aload_n dL_law_1526 rfl ?_
    refine v_aload_n dL_law_1527 rfl ?_
    refine v_iload dL_law_1528 rfl ?_
    refine v_iconst (iI 1) dL_law_1530 rfl ?_
    refine w_iadd dL_law_1531 ?_
    refine w_sld hSc (by decide) dL_law_1532 (i + 1) (by omega) (by omega) e1 ?_
    refine w_i2l dL_law_1533 (by omega) ?_
    refine v_bipush (iI 32) dL_law_1534 rfl ?_
    refine w_lshl dL_law_1536 32 4294967296 rfl rfl (by decide) ?_
    refine v_aload_n dL_law_1537 rfl ?_
    refine v_iload dL_law_1538 rfl ?_
    refine v_iconst (iI 2) dL_law_1540 rfl ?_
    refine w_iadd dL_law_1541 ?_
    refine w_sld hSc (by decide) dL_law_1542 (i + 2) (by omega) (by omega) e2 ?_
    refine w_low dL_law_1543 kL_125 dL_law_1544 dL_law_1547 ?_
    refine w_lor dL_law_1548 32 4294967296 rfl (by decide) (by omega) (by omega) ?_
    refine v_aload_n dL_law_1549 rfl ?_
    refine v_iload dL_law_1550 rfl ?_
    refine v_iconst (iI 3) dL_law_1552 rfl ?_
    refine w_iadd dL_law_1553 ?_
    refine w_sld hSc (by decide) dL_law_1554 (i + 3) (by omega) (by omega) e3 ?_
    refine v_aload_n dL_law_1555 rfl ?_
    refine v_cSW (av := [.ref 0, .long (jL ((p1 * 4294967296) + (p2 % 4294967296))), .int (iI p3), .ref 90]) (st := []) hE zyL_feed lL_187 (q_feedA hH r3 hx htc) dL_law_1556 rfl rfl (Nat.le_of_ble_eq_true rfl) (by omega) (by omega) (by omega) (Or.inl (fun _ _ _ q => ZN q)) (fun r9 G1 n9 q9 => ?_)
    obtain ⟨rfl, q9n, hH, fr1⟩ := q9
    have q9n := q9n.symm
    subst q9n
    have hM := hM.fr fr1 (by decide)
    have h_90 := (fr1 90 (by decide)).trans h_90
    obtain ⟨_, _, _, _, _, _, _, _, _, _, _, _, h_47, -⟩ := id hM
    refine v_istore (i := 5) (lv' := [(5, .int (iI 1)), (0, .ref 1000), (1, .ref 0), (2, .ref 47), (3, .ref 90), (4, .int (iI (i:Nat)))]) dL_law_1559 (by decide) rfl ?_
    refine v_aload_n dL_law_1561 rfl ?_
    refine v_aload_n dL_law_1562 rfl ?_
    refine v_iload dL_law_1563 rfl ?_
    refine v_iconst (iI 1) dL_law_1565 rfl ?_
    refine w_iadd dL_law_1566 ?_
    refine w_sld hSc (by decide) dL_law_1567 (i + 1) (by omega) (by omega) e1 ?_
    refine w_i2l dL_law_1568 (by omega) ?_
    refine v_bipush (iI 32) dL_law_1569 rfl ?_
    refine w_lshl dL_law_1571 32 4294967296 rfl rfl (by decide) ?_
    refine v_aload_n dL_law_1572 rfl ?_
    refine v_iload dL_law_1573 rfl ?_
    refine v_iconst (iI 2) dL_law_1575 rfl ?_
    refine w_iadd dL_law_1576 ?_
    refine w_sld hSc (by decide) dL_law_1577 (i + 2) (by omega) (by omega) e2 ?_
    refine w_low dL_law_1578 kL_125 dL_law_1579 dL_law_1582 ?_
    refine w_lor dL_law_1583 32 4294967296 rfl (by decide) (by omega) (by omega) ?_
    refine v_aload_n dL_law_1584 rfl ?_
    refine v_iload dL_law_1585 rfl ?_
    refine v_iconst (iI 3) dL_law_1587 rfl ?_
    refine w_iadd dL_law_1588 ?_
    refine w_sld hSc (by decide) dL_law_1589 (i + 3) (by omega) (by omega) e3 ?_
    refine v_cV (av := [.long (jL ((p1 * 4294967296) + (p2 % 4294967296))), .int (iI p3)]) (st := []) zyX11_feed lL_190 h_47 rfl (p_Mfeedx (d := 10) hM r3 hx htc) dL_law_1590 rfl rfl (Nat.le_of_ble_eq_true rfl) (by omega) (by omega) (by omega) (Or.inl (fun _ _ _ q => ZN q)) (fun r9 G2 n9 q9 => ?_)
    obtain ⟨rfl, q9n, hM, fr2⟩ := q9
    have q9n := q9n.symm
    subst q9n
    have hH := hH.fr fr2 (by decide)
    have h_90 := (fr2 90 (by decide)).trans h_90
    obtain ⟨_, _, _, _, _, _, _, _, _, _, _, _, h_47, -⟩ := id hM
    refine v_istore (i := 6) (lv' := [(6, .int (iI 0)), (5, .int (iI 1)), (0, .ref 1000), (1, .ref 0), (2, .ref 47), (3, .ref 90), (4, .int (iI (i:Nat)))]) dL_law_1593 (by decide) rfl ?_
    refine v_aload_n dL_law_1595 rfl ?_
    refine v_cV (av := []) (st := []) zyX11_thrown lL_111 h_47 rfl (p_thrown (d := 10) hM) dL_law_1596 rfl rfl (Nat.le_of_ble_eq_true rfl) (by omega) (by omega) (by omega) (Or.inl (fun _ _ _ q => ZN q)) (fun r9 K1 n9 q9 => ?_)
    obtain ⟨rfl, q9n, q9h⟩ := q9
    have q9n := q9n.symm
    subst q9n
    have q9h := q9h.symm
    subst q9h
    refine v_iload dL_law_1599 rfl ?_
    refine w_icmp_same 1606 dL_law_1601 (by decide) ?_
    refine v_iload dL_law_1606 rfl ?_
    refine w_if_ne 1623 dL_law_1608 (by decide) (by decide) (fun c8 => ?_) (fun c8 => ?_)
    · skip
      refine v_goto 1791 dL_law_1623 (by decide) ?_
      refine w_sub (lv2 := [(0, .ref 1000), (1, .ref 0), (2, .ref 47), (3, .ref 90), (4, .int (iI (i:Nat)))]) [2, 3, 4, 5, 6] rfl ?_
      exact kont _ _ _ ⟨wd, pt, tf, Q, qn, tc, L, _, _, hH, hM, h_90, hPL, hbb, htc, hQb.mono (by omega)⟩ (by omega) (by omega)
    · exact absurd c8 (by decide)
  | true =>
    have hx : 1 ≤ p3 ∧ p3 ≤ 8 ∧ (tc : Int) + p3 ≤ 80 := of_decide_eq_true hx
    obtain ⟨m, q3⟩ := n_n (p := p3) (by omega)
    subst q3
    refine v_aload_n dL_law_1526 rfl ?_
    refine v_aload_n dL_law_1527 rfl ?_
    refine v_iload dL_law_1528 rfl ?_
    refine v_iconst (iI 1) dL_law_1530 rfl ?_
    refine w_iadd dL_law_1531 ?_
    refine w_sld hSc (by decide) dL_law_1532 (i + 1) (by omega) (by omega) e1 ?_
    refine w_i2l dL_law_1533 (by omega) ?_
    refine v_bipush (iI 32) dL_law_1534 rfl ?_
    refine w_lshl dL_law_1536 32 4294967296 rfl rfl (by decide) ?_
    refine v_aload_n dL_law_1537 rfl ?_
    refine v_iload dL_law_1538 rfl ?_
    refine v_iconst (iI 2) dL_law_1540 rfl ?_
    refine w_iadd dL_law_1541 ?_
    refine w_sld hSc (by decide) dL_law_1542 (i + 2) (by omega) (by omega) e2 ?_
    refine w_low dL_law_1543 kL_125 dL_law_1544 dL_law_1547 ?_
    refine w_lor dL_law_1548 32 4294967296 rfl (by decide) (by omega) (by omega) ?_
    refine v_aload_n dL_law_1549 rfl ?_
    refine v_iload dL_law_1550 rfl ?_
    refine v_iconst (iI 3) dL_law_1552 rfl ?_
    refine w_iadd dL_law_1553 ?_
    refine w_sld hSc (by decide) dL_law_1554 (i + 3) (by omega) (by omega) e3 ?_
    refine v_aload_n dL_law_1555 rfl ?_
    refine v_cSW (av := [.ref 0, .long (jL ((p1 * 4294967296) + (p2 % 4294967296))), .int (iI (m:Nat)), .ref 90]) (st := []) hE zyL_feed lL_187 (q_feed (x := (p1 * 4294967296 + p2 % 4294967296)) hH h_90 (by omega) (by omega)) dL_law_1556 rfl rfl (Nat.le_of_ble_eq_true rfl) (by omega) (by omega) (by omega) (Or.inl (fun _ _ _ q => ZN q)) (fun r9 G1 n9 q9 => ?_)
    obtain ⟨rfl, q9n, hH, h_90, fr1⟩ := q9
    have q9n := q9n.symm
    subst q9n
    have hM := hM.fr fr1 (by decide)
    obtain ⟨_, _, _, _, _, _, _, _, _, _, _, _, h_47, -⟩ := id hM
    refine v_istore (i := 5) (lv' := [(5, .int (iI 0)), (0, .ref 1000), (1, .ref 0), (2, .ref 47), (3, .ref 90), (4, .int (iI (i:Nat)))]) dL_law_1559 (by decide) rfl ?_
    refine v_aload_n dL_law_1561 rfl ?_
    refine v_aload_n dL_law_1562 rfl ?_
    refine v_iload dL_law_1563 rfl ?_
    refine v_iconst (iI 1) dL_law_1565 rfl ?_
    refine w_iadd dL_law_1566 ?_
    refine w_sld hSc (by decide) dL_law_1567 (i + 1) (by omega) (by omega) e1 ?_
    refine w_i2l dL_law_1568 (by omega) ?_
    refine v_bipush (iI 32) dL_law_1569 rfl ?_
    refine w_lshl dL_law_1571 32 4294967296 rfl rfl (by decide) ?_
    refine v_aload_n dL_law_1572 rfl ?_
    refine v_iload dL_law_1573 rfl ?_
    refine v_iconst (iI 2) dL_law_1575 rfl ?_
    refine w_iadd dL_law_1576 ?_
    refine w_sld hSc (by decide) dL_law_1577 (i + 2) (by omega) (by omega) e2 ?_
    refine w_low dL_law_1578 kL_125 dL_law_1579 dL_law_1582 ?_
    refine w_lor dL_law_1583 32 4294967296 rfl (by decide) (by omega) (by omega) ?_
    refine v_aload_n dL_law_1584 rfl ?_
    refine v_iload dL_law_1585 rfl ?_
    refine v_iconst (iI 3) dL_law_1587 rfl ?_
    refine w_iadd dL_law_1588 ?_
    refine w_sld hSc (by decide) dL_law_1589 (i + 3) (by omega) (by omega) e3 ?_
    refine v_cV (av := [.long (jL ((p1 * 4294967296) + (p2 % 4294967296))), .int (iI (m:Nat))]) (st := []) zyX11_feed lL_190 h_47 rfl (p_Mfeed (d := 10) (x := (p1 * 4294967296 + p2 % 4294967296)) hM (by omega) (by omega)) dL_law_1590 rfl rfl (Nat.le_of_ble_eq_true rfl) (by omega) (by omega) (by omega) (Or.inl (fun _ _ _ q => ZN q)) (fun r9 G2 n9 q9 => ?_)
    obtain ⟨rfl, q9n, hM, fr2⟩ := q9
    have q9n := q9n.symm
    subst q9n
    have hH := hH.fr fr2 (by decide)
    have h_90 := (fr2 90 (by decide)).trans h_90
    obtain ⟨_, _, _, _, _, _, _, _, _, _, _, _, h_47, -⟩ := id hM
    refine v_istore (i := 6) (lv' := [(6, .int (iI (tc + m : Nat))), (5, .int (iI 0)), (0, .ref 1000), (1, .ref 0), (2, .ref 47), (3, .ref 90), (4, .int (iI (i:Nat)))]) dL_law_1593 (by decide) rfl ?_
    refine v_aload_n dL_law_1595 rfl ?_
    refine v_cV (av := []) (st := []) zyX11_thrown lL_111 h_47 rfl (p_thrown (d := 10) hM) dL_law_1596 rfl rfl (Nat.le_of_ble_eq_true rfl) (by omega) (by omega) (by omega) (Or.inl (fun _ _ _ q => ZN q)) (fun r9 K1 n9 q9 => ?_)
    obtain ⟨rfl, q9n, q9h⟩ := q9
    have q9n := q9n.symm
    subst q9n
    have q9h := q9h.symm
    subst q9h
    refine v_iload dL_law_1599 rfl ?_
    refine w_icmp_same 1606 dL_law_1601 (by decide) ?_
    refine v_iload dL_law_1606 rfl ?_
    refine w_if_ne 1623 dL_law_1608 (by decide) (by decide) (fun c8 => ?_) (fun c8 => ?_)
    · exact absurd rfl c8
    · skip
      refine v_aload_n dL_law_1611 rfl ?_
      refine v_iconst (iI 0) dL_law_1612 rfl ?_
      refine w_lald dL_law_1613 h_90 0 rfl (by decide) (by decide) ?_
      refine w_el (s32 (tc + m : Nat)) (zup_same _ _ _) ?_
      refine v_iload dL_law_1614 rfl ?_
      refine w_topi (s32 (tc + m : Nat)) (s32_m _) ?_
      refine w_i2l dL_law_1616 (s32_r _) ?_
      refine w_lcmp_same 1623 dL_law_1617 dL_law_1618 (by decide) ?_
      refine v_goto 1791 dL_law_1623 (by decide) ?_
      refine w_sub (lv2 := [(0, .ref 1000), (1, .ref 0), (2, .ref 47), (3, .ref 90), (4, .int (iI (i:Nat)))]) [2, 3, 4, 5, 6] rfl ?_
      exact kont _ _ _ ⟨wd, pt, fdF tf tc (p1 * 4294967296 + p2 % 4294967296) m, Q, qn, tc + m, L, _, _, hH, hM, h_90, hPL, fdF_b hbb m, (by omega), hQb.mono (by omega)⟩ (by omega) (by omega)
set_option maxHeartbeats 8000000 in
set_option maxRecDepth 100000 in
theorem c_read {X : zX} {i cells slots N L9 : Nat} {sc : Nat → Int} {h : zH} (hE : zLE X) (hSc : zSc X L9 sc) (hi : i + 6 ≤ L9) (hc : cells + 2 ≤ 601024) (hs : slots + 9 ≤ 7293034) (hN : N ≤ 20000) (hI : LI h N)
    (kont : ∀ (h' : zH) (c' s' : Nat), LI h' (N + 32) → c' ≤ cells + 2 → s' ≤ slots + 9 → zV X PLW cL_law 8 RL (some .boolean) 11 601024 7293034 1791 [(0, .ref 1000), (1, .ref 0), (2, .ref 47), (3, .ref 90), (4, .int (iI (i:Nat)))] [] h' 91 c' s') :
    (zV X (PLW) cL_law 8 RL (some .boolean) 11 601024 7293034 1626 [(0, .ref 1000), (1, .ref 0), (2, .ref 47), (3, .ref 90), (4, .int (iI (i:Nat)))] [] h 91 cells slots) := by
  have hL9 := hSc.l
  obtain ⟨wd, pt, tf, Q, qn, tc, L, th, g, hH, hM, h_90, hPL, hbb, htc, hQb⟩ := id hI
  obtain ⟨p1, e1⟩ : ∃ p, sc (i + 1) = p := ⟨_, rfl⟩
  have r1 := hSc.r (i + 1)
  rw [e1] at r1
  cases hx : isP p1 with
  | false =>
    refine v_aload_n dL_law_1626 rfl ?_
    refine v_aload_n dL_law_1627 rfl ?_
    refine v_iload dL_law_1628 rfl ?_
    refine v_iconst (iI 1) dL_law_1630 rfl ?_
    refine w_iadd dL_law_1631 ?_
    refine w_sld hSc (by decide) dL_law_1632 (i + 1) (by omega) (by omega) e1 ?_
    refine v_aload_n dL_law_1633 rfl ?_
    refine v_cSW (av := [.ref 0, .int (iI p1), .ref 90]) (st := []) hE zyL_read lL_191 (q_readI hH r1 hx) dL_law_1634 rfl rfl (Nat.le_of_ble_eq_true rfl) (by omega) (by omega) (by omega) (Or.inl (fun _ _ _ q => ZN q)) (fun r9 G1 n9 q9 => ?_)
    obtain ⟨rfl, q9n, hH, fr1⟩ := q9
    have q9n := q9n.symm
    subst q9n
    have hM := hM.fr fr1 (by decide)
    have h_90 := (fr1 90 (by decide)).trans h_90
    obtain ⟨_, _, _, _, _, _, _, _, _, _, _, _, h_47, -⟩ := id hM
    refine v_istore (i := 5) (lv' := [(5, .int (iI 1)), (0, .ref 1000), (1, .ref 0), (2, .ref 47), (3, .ref 90), (4, .int (iI (i:Nat)))]) dL_law_1637 (by decide) rfl ?_
    refine v_aload_n dL_law_1639 rfl ?_
    refine v_aload_n dL_law_1640 rfl ?_
    refine v_iload dL_law_1641 rfl ?_
    refine v_iconst (iI 1) dL_law_1643 rfl ?_
    refine w_iadd dL_law_1644 ?_
    refine w_sld hSc (by decide) dL_law_1645 (i + 1) (by omega) (by omega) e1 ?_
    refine v_cV (av := [.int (iI p1)]) (st := []) zyX11_read lL_193 h_47 rfl (p_Mreadx (d := 10) hM r1 hx (by decide)) dL_law_1646 rfl rfl (Nat.le_of_ble_eq_true rfl) (by omega) (by omega) (by omega) (Or.inl (fun _ _ _ q => ZN q)) (fun r9 G2 n9 q9 => ?_)
    obtain ⟨rfl, q9n, hM, fr2⟩ := q9
    have q9n := q9n.symm
    subst q9n
    have hH := hH.fr fr2 (by decide)
    have h_90 := (fr2 90 (by decide)).trans h_90
    obtain ⟨_, _, _, _, _, _, _, _, _, _, _, _, h_47, -⟩ := id hM
    refine v_istore (i := 6) (lv' := [(6, .int (iI 0)), (5, .int (iI 1)), (0, .ref 1000), (1, .ref 0), (2, .ref 47), (3, .ref 90), (4, .int (iI (i:Nat)))]) dL_law_1649 (by decide) rfl ?_
    refine v_aload_n dL_law_1651 rfl ?_
    refine v_cV (av := []) (st := []) zyX11_thrown lL_111 h_47 rfl (p_thrown (d := 10) hM) dL_law_1652 rfl rfl (Nat.le_of_ble_eq_true rfl) (by omega) (by omega) (by omega) (Or.inl (fun _ _ _ q => ZN q)) (fun r9 K1 n9 q9 => ?_)
    obtain ⟨rfl, q9n, q9h⟩ := q9
    have q9n := q9n.symm
    subst q9n
    have q9h := q9h.symm
    subst q9h
    refine v_iload dL_law_1655 rfl ?_
    refine w_icmp_same 1662 dL_law_1657 (by decide) ?_
    refine v_iload dL_law_1662 rfl ?_
    refine w_if_ne 1679 dL_law_1664 (by decide) (by decide) (fun c8 => ?_) (fun c8 => ?_)
    · skip
      refine v_goto 1791 dL_law_1679 (by decide) ?_
      refine w_sub (lv2 := [(0, .ref 1000), (1, .ref 0), (2, .ref 47), (3, .ref 90), (4, .int (iI (i:Nat)))]) [2, 3, 4, 5, 6] rfl ?_
      exact kont _ _ _ ⟨wd, pt, tf, Q, qn, tc, L, _, _, hH, hM, h_90, hPL, hbb, htc, hQb.mono (by omega)⟩ (by omega) (by omega)
    · exact absurd c8 (by decide)
  | true =>
    obtain ⟨a3, q1, h3⟩ := n_P hx
    subst q1
    refine v_aload_n dL_law_1626 rfl ?_
    refine v_aload_n dL_law_1627 rfl ?_
    refine v_iload dL_law_1628 rfl ?_
    refine v_iconst (iI 1) dL_law_1630 rfl ?_
    refine w_iadd dL_law_1631 ?_
    refine w_sld hSc (by decide) dL_law_1632 (i + 1) (by omega) (by omega) e1 ?_
    refine v_aload_n dL_law_1633 rfl ?_
    refine v_cSW (av := [.ref 0, .int (iI (a3:Nat)), .ref 90]) (st := []) hE zyL_read lL_191 (q_read hH h_90 hPL h3 hbb htc) dL_law_1634 rfl rfl (Nat.le_of_ble_eq_true rfl) (by omega) (by omega) (by omega) (Or.inl (fun _ _ _ q => ZN q)) (fun r9 G1 n9 q9 => ?_)
    obtain ⟨rfl, q9n, hH, h_90, fr1⟩ := q9
    have q9n := q9n.symm
    subst q9n
    have hM := hM.fr fr1 (by decide)
    obtain ⟨_, _, _, _, _, _, _, _, _, _, _, _, h_47, -⟩ := id hM
    refine v_istore (i := 5) (lv' := [(5, .int (iI 0)), (0, .ref 1000), (1, .ref 0), (2, .ref 47), (3, .ref 90), (4, .int (iI (i:Nat)))]) dL_law_1637 (by decide) rfl ?_
    refine v_aload_n dL_law_1639 rfl ?_
    refine v_aload_n dL_law_1640 rfl ?_
    refine v_iload dL_law_1641 rfl ?_
    refine v_iconst (iI 1) dL_law_1643 rfl ?_
    refine w_iadd dL_law_1644 ?_
    refine w_sld hSc (by decide) dL_law_1645 (i + 1) (by omega) (by omega) e1 ?_
    refine v_cV (av := [.int (iI (a3:Nat))]) (st := []) zyX11_read lL_193 h_47 rfl (p_Mread (d := 10) hM hPL h3 hbb htc (zk_of hH hM h_90) (by decide) (by decide)) dL_law_1646 rfl rfl (Nat.le_of_ble_eq_true rfl) (by omega) (by omega) (by omega) (Or.inl (fun _ _ _ q => ZN q)) (fun r9 G2 n9 q9 => ?_)
    obtain ⟨rfl, q9n, hM, fr2⟩ := q9
    have q9n := q9n.symm
    subst q9n
    have hH := hH.fr fr2 (by decide)
    have h_90 := (fr2 90 (by decide)).trans h_90
    obtain ⟨_, _, _, _, _, _, _, _, _, _, _, _, h_47, -⟩ := id hM
    refine v_istore (i := 6) (lv' := [(6, .int (iI (cond (rdOk tf tc) 0 (-1 - (rdAt tf tc : Int))))), (5, .int (iI 0)), (0, .ref 1000), (1, .ref 0), (2, .ref 47), (3, .ref 90), (4, .int (iI (i:Nat)))]) dL_law_1649 (by decide) rfl ?_
    refine v_aload_n dL_law_1651 rfl ?_
    refine v_cV (av := []) (st := []) zyX11_thrown lL_111 h_47 rfl (p_thrown (d := 10) hM) dL_law_1652 rfl rfl (Nat.le_of_ble_eq_true rfl) (by omega) (by omega) (by omega) (Or.inl (fun _ _ _ q => ZN q)) (fun r9 K1 n9 q9 => ?_)
    obtain ⟨rfl, q9n, q9h⟩ := q9
    have q9n := q9n.symm
    subst q9n
    have q9h := q9h.symm
    subst q9h
    refine v_iload dL_law_1655 rfl ?_
    refine w_icmp_same 1662 dL_law_1657 (by decide) ?_
    refine v_iload dL_law_1662 rfl ?_
    refine w_if_ne 1679 dL_law_1664 (by decide) (by decide) (fun c8 => ?_) (fun c8 => ?_)
    · exact absurd rfl c8
    · skip
      refine v_aload_n dL_law_1667 rfl ?_
      refine v_iconst (iI 0) dL_law_1668 rfl ?_
      refine w_lald dL_law_1669 h_90 0 rfl (by decide) (by decide) ?_
      refine w_el (s32 (cond (rdOk tf tc) 0 (-1 - (rdAt tf tc : Int)))) (zup_same _ _ _) ?_
      refine v_iload dL_law_1670 rfl ?_
      refine w_topi (s32 (cond (rdOk tf tc) 0 (-1 - (rdAt tf tc : Int)))) (s32_m _) ?_
      refine w_i2l dL_law_1672 (s32_r _) ?_
      refine w_lcmp_same 1679 dL_law_1673 dL_law_1674 (by decide) ?_
      refine v_goto 1791 dL_law_1679 (by decide) ?_
      refine w_sub (lv2 := [(0, .ref 1000), (1, .ref 0), (2, .ref 47), (3, .ref 90), (4, .int (iI (i:Nat)))]) [2, 3, 4, 5, 6] rfl ?_
      exact kont _ _ _ ⟨wd, cond (rdOk tf tc) (zup pt a3 (mrd tf tc (wd a3))) pt, tf, Q, qn, 0, L, _, _, hH, hM, h_90, (by cases rdOk tf tc with | true => exact hPL.up (mrd_lt (hPL a3 h3).1) | false => exact hPL), hbb, (by decide), hQb.mono (by omega)⟩ (by omega) (by omega)
set_option maxHeartbeats 8000000 in
set_option maxRecDepth 100000 in
theorem c_write {X : zX} {i cells slots N L9 : Nat} {sc : Nat → Int} {h : zH} (hE : zLE X) (hSc : zSc X L9 sc) (hi : i + 6 ≤ L9) (hc : cells + 2 ≤ 601024) (hs : slots + 9 ≤ 7293034) (hN : N ≤ 20000) (hI : LI h N)
    (kont : ∀ (h' : zH) (c' s' : Nat), LI h' (N + 32) → c' ≤ cells + 2 → s' ≤ slots + 9 → zV X PLW cL_law 8 RL (some .boolean) 11 601024 7293034 1791 [(0, .ref 1000), (1, .ref 0), (2, .ref 47), (3, .ref 90), (4, .int (iI (i:Nat)))] [] h' 91 c' s') :
    (zV X (PLW) cL_law 8 RL (some .boolean) 11 601024 7293034 1682 [(0, .ref 1000), (1, .ref 0), (2, .ref 47), (3, .ref 90), (4, .int (iI (i:Nat)))] [] h 91 cells slots) := by
  have hL9 := hSc.l
  obtain ⟨wd, pt, tf, Q, qn, tc, L, th, g, hH, hM, h_90, hPL, hbb, htc, hQb⟩ := id hI
  obtain ⟨p1, e1⟩ : ∃ p, sc (i + 1) = p := ⟨_, rfl⟩
  have r1 := hSc.r (i + 1)
  rw [e1] at r1
  obtain ⟨p2, e2⟩ : ∃ p, sc (i + 2) = p := ⟨_, rfl⟩
  have r2 := hSc.r (i + 2)
  rw [e2] at r2
  by_cases hb9 : p2 = 0
  · skip
    cases hx : isP p1 with
    | false =>
      refine v_aload_n dL_law_1682 rfl ?_
      refine v_aload_n dL_law_1683 rfl ?_
      refine v_iload dL_law_1684 rfl ?_
      refine v_iconst (iI 1) dL_law_1686 rfl ?_
      refine w_iadd dL_law_1687 ?_
      refine w_sld hSc (by decide) dL_law_1688 (i + 1) (by omega) (by omega) e1 ?_
      refine v_aload_n dL_law_1689 rfl ?_
      refine v_iload dL_law_1690 rfl ?_
      refine v_iconst (iI 2) dL_law_1692 rfl ?_
      refine w_iadd dL_law_1693 ?_
      refine w_sld hSc (by decide) dL_law_1694 (i + 2) (by omega) (by omega) e2 ?_
      refine w_if_eq 1702 dL_law_1695 (by decide) (by omega) (fun c5 => ?_) (fun c5 => ?_)
      · skip
        refine v_iconst (iI 0) dL_law_1702 rfl ?_
        refine w_ei (bz false) rfl ?_
        refine v_aload_n dL_law_1703 rfl ?_
        refine v_cSW (av := [.ref 0, .int (iI p1), .int (iI (bz false)), .ref 90]) (st := []) hE zyL_write lL_194 (q_writeI (b := false) hH r1 hx) dL_law_1704 rfl rfl (Nat.le_of_ble_eq_true rfl) (by omega) (by omega) (by omega) (Or.inl (fun _ _ _ q => ZN q)) (fun r9 G1 n9 q9 => ?_)
        obtain ⟨rfl, q9n, hH, fr1⟩ := q9
        have q9n := q9n.symm
        subst q9n
        have hM := hM.fr fr1 (by decide)
        have h_90 := (fr1 90 (by decide)).trans h_90
        obtain ⟨_, _, _, _, _, _, _, _, _, _, _, _, h_47, -⟩ := id hM
        refine v_istore (i := 5) (lv' := [(5, .int (iI 1)), (0, .ref 1000), (1, .ref 0), (2, .ref 47), (3, .ref 90), (4, .int (iI (i:Nat)))]) dL_law_1707 (by decide) rfl ?_
        refine v_aload_n dL_law_1709 rfl ?_
        refine v_aload_n dL_law_1710 rfl ?_
        refine v_iload dL_law_1711 rfl ?_
        refine v_iconst (iI 1) dL_law_1713 rfl ?_
        refine w_iadd dL_law_1714 ?_
        refine w_sld hSc (by decide) dL_law_1715 (i + 1) (by omega) (by omega) e1 ?_
        refine v_aload_n dL_law_1716 rfl ?_
        refine v_iload dL_law_1717 rfl ?_
        refine v_iconst (iI 2) dL_law_1719 rfl ?_
        refine w_iadd dL_law_1720 ?_
        refine w_sld hSc (by decide) dL_law_1721 (i + 2) (by omega) (by omega) e2 ?_
        refine w_if_eq 1729 dL_law_1722 (by decide) (by omega) (fun c5 => ?_) (fun c5 => ?_)
        · skip
          refine v_iconst (iI 0) dL_law_1729 rfl ?_
          refine w_ei (bz false) rfl ?_
          refine v_cV (av := [.int (iI p1), .int (iI (bz false))]) (st := []) zyX11_write lL_197 h_47 rfl (p_Mwritex (d := 10) (b := false) hM r1 hx (by decide)) dL_law_1730 rfl rfl (Nat.le_of_ble_eq_true rfl) (by omega) (by omega) (by omega) (Or.inl (fun _ _ _ q => ZN q)) (fun r9 G2 n9 q9 => ?_)
          obtain ⟨rfl, q9n, hM, fr2⟩ := q9
          have q9n := q9n.symm
          subst q9n
          have hH := hH.fr fr2 (by decide)
          have h_90 := (fr2 90 (by decide)).trans h_90
          obtain ⟨_, _, _, _, _, _, _, _, _, _, _, _, h_47, -⟩ := id hM
          refine v_istore (i := 6) (lv' := [(6, .int (iI 0)), (5, .int (iI 1)), (0, .ref 1000), (1, .ref 0), (2, .ref 47), (3, .ref 90), (4, .int (iI (i:Nat)))]) dL_law_1733 (by decide) rfl ?_
          refine v_aload_n dL_law_1735 rfl ?_
          refine v_cV (av := []) (st := []) zyX11_thrown lL_111 h_47 rfl (p_thrown (d := 10) hM) dL_law_1736 rfl rfl (Nat.le_of_ble_eq_true rfl) (by omega) (by omega) (by omega) (Or.inl (fun _ _ _ q => ZN q)) (fun r9 K1 n9 q9 => ?_)
          obtain ⟨rfl, q9n, q9h⟩ := q9
          have q9n := q9n.symm
          subst q9n
          have q9h := q9h.symm
          subst q9h
          refine v_iload dL_law_1739 rfl ?_
          refine w_icmp_same 1746 dL_law_1741 (by decide) ?_
          refine v_iload dL_law_1746 rfl ?_
          refine w_if_ne 1763 dL_law_1748 (by decide) (by decide) (fun c8 => ?_) (fun c8 => ?_)
          · skip
            refine v_goto 1791 dL_law_1763 (by decide) ?_
            refine w_sub (lv2 := [(0, .ref 1000), (1, .ref 0), (2, .ref 47), (3, .ref 90), (4, .int (iI (i:Nat)))]) [2, 3, 4, 5, 6] rfl ?_
            exact kont _ _ _ ⟨wd, pt, tf, Q, qn, tc, L, _, _, hH, hM, h_90, hPL, hbb, htc, hQb.mono (by omega)⟩ (by omega) (by omega)
          · exact absurd c8 (by decide)
        · exact absurd hb9 c5
      · exact absurd hb9 c5
    | true =>
      obtain ⟨a1, q1, h1⟩ := n_P hx
      subst q1
      refine v_aload_n dL_law_1682 rfl ?_
      refine v_aload_n dL_law_1683 rfl ?_
      refine v_iload dL_law_1684 rfl ?_
      refine v_iconst (iI 1) dL_law_1686 rfl ?_
      refine w_iadd dL_law_1687 ?_
      refine w_sld hSc (by decide) dL_law_1688 (i + 1) (by omega) (by omega) e1 ?_
      refine v_aload_n dL_law_1689 rfl ?_
      refine v_iload dL_law_1690 rfl ?_
      refine v_iconst (iI 2) dL_law_1692 rfl ?_
      refine w_iadd dL_law_1693 ?_
      refine w_sld hSc (by decide) dL_law_1694 (i + 2) (by omega) (by omega) e2 ?_
      refine w_if_eq 1702 dL_law_1695 (by decide) (by omega) (fun c5 => ?_) (fun c5 => ?_)
      · skip
        refine v_iconst (iI 0) dL_law_1702 rfl ?_
        refine w_ei (bz false) rfl ?_
        refine v_aload_n dL_law_1703 rfl ?_
        refine v_cSW (av := [.ref 0, .int (iI (a1:Nat)), .int (iI (bz false)), .ref 90]) (st := []) hE zyL_write lL_194 (q_write (br := false) hH h_90 hPL h1) dL_law_1704 rfl rfl (Nat.le_of_ble_eq_true rfl) (by omega) (by omega) (by omega) (Or.inl (fun _ _ _ q => ZN q)) (fun r9 G1 n9 q9 => ?_)
        obtain ⟨rfl, q9n, ⟨T, hH, hT9, h_90⟩, fr1⟩ := q9
        have q9n := q9n.symm
        subst q9n
        have hM := hM.fr fr1 (by decide)
        obtain ⟨_, _, _, _, _, _, _, _, _, _, _, _, h_47, -⟩ := id hM
        refine v_istore (i := 5) (lv' := [(5, .int (iI 0)), (0, .ref 1000), (1, .ref 0), (2, .ref 47), (3, .ref 90), (4, .int (iI (i:Nat)))]) dL_law_1707 (by decide) rfl ?_
        refine v_aload_n dL_law_1709 rfl ?_
        refine v_aload_n dL_law_1710 rfl ?_
        refine v_iload dL_law_1711 rfl ?_
        refine v_iconst (iI 1) dL_law_1713 rfl ?_
        refine w_iadd dL_law_1714 ?_
        refine w_sld hSc (by decide) dL_law_1715 (i + 1) (by omega) (by omega) e1 ?_
        refine v_aload_n dL_law_1716 rfl ?_
        refine v_iload dL_law_1717 rfl ?_
        refine v_iconst (iI 2) dL_law_1719 rfl ?_
        refine w_iadd dL_law_1720 ?_
        refine w_sld hSc (by decide) dL_law_1721 (i + 2) (by omega) (by omega) e2 ?_
        refine w_if_eq 1729 dL_law_1722 (by decide) (by omega) (fun c5 => ?_) (fun c5 => ?_)
        · skip
          refine v_iconst (iI 0) dL_law_1729 rfl ?_
          refine w_ei (bz false) rfl ?_
          refine v_cV (av := [.int (iI (a1:Nat)), .int (iI (bz false))]) (st := []) zyX11_write lL_197 h_47 rfl (p_Mwrite (d := 10) (br := false) hM hPL h1 (fun _ => wrS_of ⟨(hPL a1 h1).1, (hPL a1 h1).2.1⟩ (hPL a1 h1).2.2) (by decide)) dL_law_1730 rfl rfl (Nat.le_of_ble_eq_true rfl) (by omega) (by omega) (by omega) (Or.inl (fun _ _ _ q => q.2.1)) (fun r9 G2 n9 q9 => ?_)
          obtain ⟨⟨T2, rfl, hM, hwr⟩, rfl, fr2⟩ := q9
          have eT := hT9 T2 hwr
          subst eT
          have hH := hH.fr fr2 (by decide)
          have h_90 := (fr2 90 (by decide)).trans h_90
          obtain ⟨_, _, _, _, _, _, _, _, _, _, _, _, h_47, -⟩ := id hM
          refine v_istore (i := 6) (lv' := [(6, .int (iI (T2.length:Nat))), (5, .int (iI 0)), (0, .ref 1000), (1, .ref 0), (2, .ref 47), (3, .ref 90), (4, .int (iI (i:Nat)))]) dL_law_1733 (by decide) rfl ?_
          refine v_aload_n dL_law_1735 rfl ?_
          refine v_cV (av := []) (st := []) zyX11_thrown lL_111 h_47 rfl (p_thrown (d := 10) hM) dL_law_1736 rfl rfl (Nat.le_of_ble_eq_true rfl) (by omega) (by omega) (by omega) (Or.inl (fun _ _ _ q => ZN q)) (fun r9 K1 n9 q9 => ?_)
          obtain ⟨rfl, q9n, q9h⟩ := q9
          have q9n := q9n.symm
          subst q9n
          have q9h := q9h.symm
          subst q9h
          refine v_iload dL_law_1739 rfl ?_
          refine w_icmp_same 1746 dL_law_1741 (by decide) ?_
          refine v_iload dL_law_1746 rfl ?_
          refine w_if_ne 1763 dL_law_1748 (by decide) (by decide) (fun c8 => ?_) (fun c8 => ?_)
          · exact absurd rfl c8
          · skip
            refine v_aload_n dL_law_1751 rfl ?_
            refine v_iconst (iI 0) dL_law_1752 rfl ?_
            refine w_lald dL_law_1753 h_90 0 rfl (by decide) (by decide) ?_
            refine w_el (s32 (T2.length : Nat)) (zup_same _ _ _) ?_
            refine v_iload dL_law_1754 rfl ?_
            refine w_topi (s32 (T2.length : Nat)) (s32_m _) ?_
            refine w_i2l dL_law_1756 (s32_r _) ?_
            refine w_lcmp_same 1763 dL_law_1757 dL_law_1758 (by decide) ?_
            refine v_goto 1791 dL_law_1763 (by decide) ?_
            refine w_sub (lv2 := [(0, .ref 1000), (1, .ref 0), (2, .ref 47), (3, .ref 90), (4, .int (iI (i:Nat)))]) [2, 3, 4, 5, 6] rfl ?_
            exact kont _ _ _ ⟨wd, pt, tf, Q, qn, tc, T2, _, _, hH, hM, h_90, hPL, hbb, htc, hQb.mono (by omega)⟩ (by omega) (by omega)
        · exact absurd hb9 c5
      · exact absurd hb9 c5
  · skip
    cases hx : isP p1 with
    | false =>
      refine v_aload_n dL_law_1682 rfl ?_
      refine v_aload_n dL_law_1683 rfl ?_
      refine v_iload dL_law_1684 rfl ?_
      refine v_iconst (iI 1) dL_law_1686 rfl ?_
      refine w_iadd dL_law_1687 ?_
      refine w_sld hSc (by decide) dL_law_1688 (i + 1) (by omega) (by omega) e1 ?_
      refine v_aload_n dL_law_1689 rfl ?_
      refine v_iload dL_law_1690 rfl ?_
      refine v_iconst (iI 2) dL_law_1692 rfl ?_
      refine w_iadd dL_law_1693 ?_
      refine w_sld hSc (by decide) dL_law_1694 (i + 2) (by omega) (by omega) e2 ?_
      refine w_if_eq 1702 dL_law_1695 (by decide) (by omega) (fun c5 => ?_) (fun c5 => ?_)
      · exact absurd c5 hb9
      · skip
        refine v_iconst (iI 1) dL_law_1698 rfl ?_
        refine v_goto 1703 dL_law_1699 (by decide) ?_
        refine w_ei (bz true) rfl ?_
        refine v_aload_n dL_law_1703 rfl ?_
        refine v_cSW (av := [.ref 0, .int (iI p1), .int (iI (bz true)), .ref 90]) (st := []) hE zyL_write lL_194 (q_writeI (b := true) hH r1 hx) dL_law_1704 rfl rfl (Nat.le_of_ble_eq_true rfl) (by omega) (by omega) (by omega) (Or.inl (fun _ _ _ q => ZN q)) (fun r9 G1 n9 q9 => ?_)
        obtain ⟨rfl, q9n, hH, fr1⟩ := q9
        have q9n := q9n.symm
        subst q9n
        have hM := hM.fr fr1 (by decide)
        have h_90 := (fr1 90 (by decide)).trans h_90
        obtain ⟨_, _, _, _, _, _, _, _, _, _, _, _, h_47, -⟩ := id hM
        refine v_istore (i := 5) (lv' := [(5, .int (iI 1)), (0, .ref 1000), (1, .ref 0), (2, .ref 47), (3, .ref 90), (4, .int (iI (i:Nat)))]) dL_law_1707 (by decide) rfl ?_
        refine v_aload_n dL_law_1709 rfl ?_
        refine v_aload_n dL_law_1710 rfl ?_
        refine v_iload dL_law_1711 rfl ?_
        refine v_iconst (iI 1) dL_law_1713 rfl ?_
        refine w_iadd dL_law_1714 ?_
        refine w_sld hSc (by decide) dL_law_1715 (i + 1) (by omega) (by omega) e1 ?_
        refine v_aload_n dL_law_1716 rfl ?_
        refine v_iload dL_law_1717 rfl ?_
        refine v_iconst (iI 2) dL_law_1719 rfl ?_
        refine w_iadd dL_law_1720 ?_
        refine w_sld hSc (by decide) dL_law_1721 (i + 2) (by omega) (by omega) e2 ?_
        refine w_if_eq 1729 dL_law_1722 (by decide) (by omega) (fun c5 => ?_) (fun c5 => ?_)
        · exact absurd c5 hb9
        · skip
          refine v_iconst (iI 1) dL_law_1725 rfl ?_
          refine v_goto 1730 dL_law_1726 (by decide) ?_
          refine w_ei (bz true) rfl ?_
          refine v_cV (av := [.int (iI p1), .int (iI (bz true))]) (st := []) zyX11_write lL_197 h_47 rfl (p_Mwritex (d := 10) (b := true) hM r1 hx (by decide)) dL_law_1730 rfl rfl (Nat.le_of_ble_eq_true rfl) (by omega) (by omega) (by omega) (Or.inl (fun _ _ _ q => ZN q)) (fun r9 G2 n9 q9 => ?_)
          obtain ⟨rfl, q9n, hM, fr2⟩ := q9
          have q9n := q9n.symm
          subst q9n
          have hH := hH.fr fr2 (by decide)
          have h_90 := (fr2 90 (by decide)).trans h_90
          obtain ⟨_, _, _, _, _, _, _, _, _, _, _, _, h_47, -⟩ := id hM
          refine v_istore (i := 6) (lv' := [(6, .int (iI 0)), (5, .int (iI 1)), (0, .ref 1000), (1, .ref 0), (2, .ref 47), (3, .ref 90), (4, .int (iI (i:Nat)))]) dL_law_1733 (by decide) rfl ?_
          refine v_aload_n dL_law_1735 rfl ?_
          refine v_cV (av := []) (st := []) zyX11_thrown lL_111 h_47 rfl (p_thrown (d := 10) hM) dL_law_1736 rfl rfl (Nat.le_of_ble_eq_true rfl) (by omega) (by omega) (by omega) (Or.inl (fun _ _ _ q => ZN q)) (fun r9 K1 n9 q9 => ?_)
          obtain ⟨rfl, q9n, q9h⟩ := q9
          have q9n := q9n.symm
          subst q9n
          have q9h := q9h.symm
          subst q9h
          refine v_iload dL_law_1739 rfl ?_
          refine w_icmp_same 1746 dL_law_1741 (by decide) ?_
          refine v_iload dL_law_1746 rfl ?_
          refine w_if_ne 1763 dL_law_1748 (by decide) (by decide) (fun c8 => ?_) (fun c8 => ?_)
          · skip
            refine v_goto 1791 dL_law_1763 (by decide) ?_
            refine w_sub (lv2 := [(0, .ref 1000), (1, .ref 0), (2, .ref 47), (3, .ref 90), (4, .int (iI (i:Nat)))]) [2, 3, 4, 5, 6] rfl ?_
            exact kont _ _ _ ⟨wd, pt, tf, Q, qn, tc, L, _, _, hH, hM, h_90, hPL, hbb, htc, hQb.mono (by omega)⟩ (by omega) (by omega)
          · exact absurd c8 (by decide)
    | true =>
      obtain ⟨a1, q1, h1⟩ := n_P hx
      subst q1
      refine v_aload_n dL_law_1682 rfl ?_
      refine v_aload_n dL_law_1683 rfl ?_
      refine v_iload dL_law_1684 rfl ?_
      refine v_iconst (iI 1) dL_law_1686 rfl ?_
      refine w_iadd dL_law_1687 ?_
      refine w_sld hSc (by decide) dL_law_1688 (i + 1) (by omega) (by omega) e1 ?_
      refine v_aload_n dL_law_1689 rfl ?_
      refine v_iload dL_law_1690 rfl ?_
      refine v_iconst (iI 2) dL_law_1692 rfl ?_
      refine w_iadd dL_law_1693 ?_
      refine w_sld hSc (by decide) dL_law_1694 (i + 2) (by omega) (by omega) e2 ?_
      refine w_if_eq 1702 dL_law_1695 (by decide) (by omega) (fun c5 => ?_) (fun c5 => ?_)
      · exact absurd c5 hb9
      · skip
        refine v_iconst (iI 1) dL_law_1698 rfl ?_
        refine v_goto 1703 dL_law_1699 (by decide) ?_
        refine w_ei (bz true) rfl ?_
        refine v_aload_n dL_law_1703 rfl ?_
        refine v_cSW (av := [.ref 0, .int (iI (a1:Nat)), .int (iI (bz true)), .ref 90]) (st := []) hE zyL_write lL_194 (q_write (br := true) hH h_90 hPL h1) dL_law_1704 rfl rfl (Nat.le_of_ble_eq_true rfl) (by omega) (by omega) (by omega) (Or.inl (fun _ _ _ q => ZN q)) (fun r9 G1 n9 q9 => ?_)
        obtain ⟨rfl, q9n, ⟨T, hH, hT9, h_90⟩, fr1⟩ := q9
        have q9n := q9n.symm
        subst q9n
        have hM := hM.fr fr1 (by decide)
        obtain ⟨_, _, _, _, _, _, _, _, _, _, _, _, h_47, -⟩ := id hM
        refine v_istore (i := 5) (lv' := [(5, .int (iI 0)), (0, .ref 1000), (1, .ref 0), (2, .ref 47), (3, .ref 90), (4, .int (iI (i:Nat)))]) dL_law_1707 (by decide) rfl ?_
        refine v_aload_n dL_law_1709 rfl ?_
        refine v_aload_n dL_law_1710 rfl ?_
        refine v_iload dL_law_1711 rfl ?_
        refine v_iconst (iI 1) dL_law_1713 rfl ?_
        refine w_iadd dL_law_1714 ?_
        refine w_sld hSc (by decide) dL_law_1715 (i + 1) (by omega) (by omega) e1 ?_
        refine v_aload_n dL_law_1716 rfl ?_
        refine v_iload dL_law_1717 rfl ?_
        refine v_iconst (iI 2) dL_law_1719 rfl ?_
        refine w_iadd dL_law_1720 ?_
        refine w_sld hSc (by decide) dL_law_1721 (i + 2) (by omega) (by omega) e2 ?_
        refine w_if_eq 1729 dL_law_1722 (by decide) (by omega) (fun c5 => ?_) (fun c5 => ?_)
        · exact absurd c5 hb9
        · skip
          refine v_iconst (iI 1) dL_law_1725 rfl ?_
          refine v_goto 1730 dL_law_1726 (by decide) ?_
          refine w_ei (bz true) rfl ?_
          refine v_cV (av := [.int (iI (a1:Nat)), .int (iI (bz true))]) (st := []) zyX11_write lL_197 h_47 rfl (p_Mwrite (d := 10) (br := true) hM hPL h1 (fun _ => wrS_of ⟨(hPL a1 h1).1, (hPL a1 h1).2.1⟩ (hPL a1 h1).2.2) (by decide)) dL_law_1730 rfl rfl (Nat.le_of_ble_eq_true rfl) (by omega) (by omega) (by omega) (Or.inl (fun _ _ _ q => q.2.1)) (fun r9 G2 n9 q9 => ?_)
          obtain ⟨⟨T2, rfl, hM, hwr⟩, rfl, fr2⟩ := q9
          have eT := hT9 T2 hwr
          subst eT
          have hH := hH.fr fr2 (by decide)
          have h_90 := (fr2 90 (by decide)).trans h_90
          obtain ⟨_, _, _, _, _, _, _, _, _, _, _, _, h_47, -⟩ := id hM
          refine v_istore (i := 6) (lv' := [(6, .int (iI (T2.length:Nat))), (5, .int (iI 0)), (0, .ref 1000), (1, .ref 0), (2, .ref 47), (3, .ref 90), (4, .int (iI (i:Nat)))]) dL_law_1733 (by decide) rfl ?_
          refine v_aload_n dL_law_1735 rfl ?_
          refine v_cV (av := []) (st := []) zyX11_thrown lL_111 h_47 rfl (p_thrown (d := 10) hM) dL_law_1736 rfl rfl (Nat.le_of_ble_eq_true rfl) (by omega) (by omega) (by omega) (Or.inl (fun _ _ _ q => ZN q)) (fun r9 K1 n9 q9 => ?_)
          obtain ⟨rfl, q9n, q9h⟩ := q9
          have q9n := q9n.symm
          subst q9n
          have q9h := q9h.symm
          subst q9h
          refine v_iload dL_law_1739 rfl ?_
          refine w_icmp_same 1746 dL_law_1741 (by decide) ?_
          refine v_iload dL_law_1746 rfl ?_
          refine w_if_ne 1763 dL_law_1748 (by decide) (by decide) (fun c8 => ?_) (fun c8 => ?_)
          · exact absurd rfl c8
          · skip
            refine v_aload_n dL_law_1751 rfl ?_
            refine v_iconst (iI 0) dL_law_1752 rfl ?_
            refine w_lald dL_law_1753 h_90 0 rfl (by decide) (by decide) ?_
            refine w_el (s32 (T2.length : Nat)) (zup_same _ _ _) ?_
            refine v_iload dL_law_1754 rfl ?_
            refine w_topi (s32 (T2.length : Nat)) (s32_m _) ?_
            refine w_i2l dL_law_1756 (s32_r _) ?_
            refine w_lcmp_same 1763 dL_law_1757 dL_law_1758 (by decide) ?_
            refine v_goto 1791 dL_law_1763 (by decide) ?_
            refine w_sub (lv2 := [(0, .ref 1000), (1, .ref 0), (2, .ref 47), (3, .ref 90), (4, .int (iI (i:Nat)))]) [2, 3, 4, 5, 6] rfl ?_
            exact kont _ _ _ ⟨wd, pt, tf, Q, qn, tc, T2, _, _, hH, hM, h_90, hPL, hbb, htc, hQb.mono (by omega)⟩ (by omega) (by omega)
set_option maxHeartbeats 8000000 in
set_option maxRecDepth 100000 in
theorem c_letter {X : zX} {i cells slots N L9 : Nat} {sc : Nat → Int} {h : zH} (hE : zLE X) (hSc : zSc X L9 sc) (hi : i + 6 ≤ L9) (hc : cells + 2 ≤ 601024) (hs : slots + 9 ≤ 7293034) (hN : N ≤ 20000) (hI : LI h N)
    (kont : ∀ (h' : zH) (c' s' : Nat), LI h' (N + 32) → c' ≤ cells + 2 → s' ≤ slots + 9 → zV X PLW cL_law 8 RL (some .boolean) 11 601024 7293034 1791 [(0, .ref 1000), (1, .ref 0), (2, .ref 47), (3, .ref 90), (4, .int (iI (i:Nat)))] [] h' 91 c' s') :
    (zV X (PLW) cL_law 8 RL (some .boolean) 11 601024 7293034 1766 [(0, .ref 1000), (1, .ref 0), (2, .ref 47), (3, .ref 90), (4, .int (iI (i:Nat)))] [] h 91 cells slots) := by
  have hL9 := hSc.l
  obtain ⟨wd, pt, tf, Q, qn, tc, L, th, g, hH, hM, h_90, hPL, hbb, htc, hQb⟩ := id hI
  obtain ⟨p1, e1⟩ : ∃ p, sc (i + 1) = p := ⟨_, rfl⟩
  have r1 := hSc.r (i + 1)
  rw [e1] at r1
  obtain ⟨h_0, -⟩ := id hH
  refine v_aload_n dL_law_1766 rfl ?_
  refine v_aload_n dL_law_1767 rfl ?_
  refine v_iload dL_law_1768 rfl ?_
  refine v_iconst (iI 1) dL_law_1770 rfl ?_
  refine w_iadd dL_law_1771 ?_
  refine w_sld hSc (by decide) dL_law_1772 (i + 1) (by omega) (by omega) e1 ?_
  refine v_cV (av := [.int (iI p1)]) (st := []) zyX8_letter lL_198 h_0 rfl (p_Hletter (d := 10) hH r1 (by decide)) dL_law_1773 rfl rfl (Nat.le_of_ble_eq_true rfl) (by omega) (by omega) (by omega) (Or.inl (fun _ _ _ q => ZN q)) (fun r9 G1 n9 q9 => ?_)
  obtain ⟨rfl, q9n, hH, fr1⟩ := q9
  have q9n := q9n.symm
  subst q9n
  have hM := hM.fr fr1 (by decide)
  have h_90 := (fr1 90 (by decide)).trans h_90
  obtain ⟨_, _, _, _, _, _, _, _, _, _, _, _, h_47, -⟩ := id hM
  refine v_aload_n dL_law_1776 rfl ?_
  refine v_aload_n dL_law_1777 rfl ?_
  refine v_iload dL_law_1778 rfl ?_
  refine v_iconst (iI 1) dL_law_1780 rfl ?_
  refine w_iadd dL_law_1781 ?_
  refine w_sld hSc (by decide) dL_law_1782 (i + 1) (by omega) (by omega) e1 ?_
  refine v_cV (av := [.int (iI p1)]) (st := [.int (iI (mlt L p1))]) zyX11_letter lL_201 h_47 rfl (p_Mletter (d := 10) hM r1 (Nat.le_trans hH.L (by decide))) dL_law_1783 rfl rfl (Nat.le_of_ble_eq_true rfl) (by omega) (by omega) (by omega) (Or.inl (fun _ _ _ q => ZN q)) (fun r9 G2 n9 q9 => ?_)
  obtain ⟨rfl, q9n, hM, fr2⟩ := q9
  have q9n := q9n.symm
  subst q9n
  have hH := hH.fr fr2 (by decide)
  have h_90 := (fr2 90 (by decide)).trans h_90
  refine w_icmp_same 1791 dL_law_1786 (by decide) ?_
  refine w_sub (lv2 := [(0, .ref 1000), (1, .ref 0), (2, .ref 47), (3, .ref 90), (4, .int (iI (i:Nat)))]) [0, 1, 2, 3, 4] rfl ?_
  exact kont _ _ _ ⟨wd, pt, tf, Q, qn, tc, L, _, _, hH, hM, h_90, hPL, hbb, htc, hQb.mono (by omega)⟩ (by omega) (by omega)
