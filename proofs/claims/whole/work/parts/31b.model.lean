/-! The reference: a text becomes a posit -/
theorem ND.zero {h H : zH} {a b v : Nat} (q : ND h a b v) (fr : H b = h b) (e : H a = oNat b 0) : ND H a b 0 := by
  obtain ⟨u, f, h1, h2, h3, -⟩ := q
  exact ⟨0, f, e, by rw [fr]; exact h2, h3, by decide, rfl, Or.inl rfl⟩
theorem s10_60 {k : Nat} (h : k ≤ 60) : (10 : Nat) ^ k ≤ 10 ^ 60 := Nat.pow_le_pow_right (by decide) h
set_option maxHeartbeats 8000000 in
set_option maxRecDepth 100000 in
theorem p_isDecimal {d n c : Nat} {vs vm ve sg e rt th tp wr dg pw tn fm : Int} {f : Nat → Nat} {h : zH} (h_47 : h 47 = oModel vs vm ve sg e rt th tp wr 0 (c:Nat) dg pw tn fm) (h_66 : h 66 = aN 80 f) (hA : NS h 50 51) (hB : NS h 52 53) (hf : bb f) (hc : c ≤ 80) (hd : 3 ≤ d) :
    zM yX11_isDecimal cX11_isDecimal 2 (some .boolean) d 0 0 [.ref 47] h n (fun r h' n' => r = some (.int (iI (bz (sOk f c)))) ∧ n' = n ∧ (∃ (dg pw : Int) (D : Nat), h' 47 = oModel vs vm ve (cond (decide (hr f c 0 = 45)) (-1) 1) 0 1 th tp wr (sAt f c:Nat) (c:Nat) dg pw tn fm ∧ ND h' 50 51 D ∧ ND h' 52 53 1 ∧ D < 10 ^ 60 ∧ (sOk f c = true → pw = sTens f c ∧ D = (sB f c).2.2.2)) ∧ zFr [47, 50, 51, 52, 53] h h') := by
  have bA := sA_b (f := f) (c := c)
  have bB := sB_b (f := f) (c := c)
  have q60 := s10_60 bA.1
  have q61 := s10_60 bB.1
  have hh0 := hr_r hf c 0
  refine zM_of zyX11_isDecimal rfl (Nat.le_of_ble_eq_true rfl) (fun X hX => ?_)
  have fr : zFr [47, 50, 51, 52, 53] h h := zFr.rf
  have fin : ∀ (H : zH) (x : Int) (lv1 : Int), x = sTens f c → sAok f c = true → sBok f c = true → sEok f c = true → H 47 = oModel vs vm ve (cond (decide (hr f c 0 = 45)) (-1) 1) 0 1 th tp wr (sEnd f c:Nat) (c:Nat) ((sB f c).2.2.1:Nat) x tn fm → ND H 50 51 (sB f c).2.2.2 → ND H 52 53 1 → zFr [47, 50, 51, 52, 53] h H → (zV X (fun r h' n' => r = some (.int (iI (bz (sOk f c)))) ∧ n' = n ∧ (∃ (dg pw : Int) (D : Nat), h' 47 = oModel vs vm ve (cond (decide (hr f c 0 = 45)) (-1) 1) 0 1 th tp wr (sAt f c:Nat) (c:Nat) dg pw tn fm ∧ ND h' 50 51 D ∧ ND h' 52 53 1 ∧ D < 10 ^ 60 ∧ (sOk f c = true → pw = sTens f c ∧ D = (sB f c).2.2.2)) ∧ zFr [47, 50, 51, 52, 53] h h') cX11_isDecimal 2 RX11 (some .boolean) d 0 0 127 [(0, .ref 47)] [] H n 0 0) := by
    intro H x lv1 ex hAk hBk hEk h_47 hA hB fr
    have hEnd : sEnd f c ≤ c := by
      unfold sEnd
      rcases Bool.eq_false_or_eq_true (sE f c) with q | q
      · rw [q, cond_true]; exact (sP_b q).2.1
      · rw [q, cond_false]; omega
    have eAt : sAt f c = sEnd f c := by unfold sAt; rw [hAk, hBk, cond_true, cond_true]
    have eOk : sOk f c = decide (sEnd f c = c) := by unfold sOk; rw [hAk, hBk, hEk]; rfl
    refine v_aload_n dX11_isDecimal_127 rfl ?_
    refine v_get fX11_259 dX11_isDecimal_128 h_47 (by decide) rfl ?_
    refine v_aload_n dX11_isDecimal_131 rfl ?_
    refine v_get fX11_262 dX11_isDecimal_132 h_47 (by decide) rfl ?_
    refine w_icmp_ne 142 dX11_isDecimal_135 (by decide) (by omega) (by omega) (fun c4 => ?_) (fun c4 => ?_)
    · skip
      refine v_iconst (iI 0) dX11_isDecimal_142 rfl ?_
      refine w_ei (bz false) rfl ?_
      exact v_iret dX11_isDecimal_143 bz_ret (Nat.le_of_ble_eq_true rfl) (Nat.le_of_ble_eq_true rfl) ⟨by rw [eOk, decide_eq_false (by omega)], rfl, ⟨_, _, _, by rw [eAt]; exact h_47, hA, hB, by omega, fun _ => ⟨ex, rfl⟩⟩, fr⟩
    · skip
      refine v_iconst (iI 1) dX11_isDecimal_138 rfl ?_
      refine v_goto 143 dX11_isDecimal_139 (by decide) ?_
      refine w_ei (bz true) rfl ?_
      exact v_iret dX11_isDecimal_143 bz_ret (Nat.le_of_ble_eq_true rfl) (Nat.le_of_ble_eq_true rfl) ⟨by rw [eOk, decide_eq_true (by omega)], rfl, ⟨_, _, _, by rw [eAt]; exact h_47, hA, hB, by omega, fun _ => ⟨ex, rfl⟩⟩, fr⟩
  have j99 : ∀ (H : zH) (x : Int), x = ((sA f c).2.2.1 : Int) - ((sB f c).2.2.1 : Int) → sAok f c = true → sBok f c = true → H 47 = oModel vs vm ve (cond (decide (hr f c 0 = 45)) (-1) 1) 0 1 th tp wr ((sB f c).2.1:Nat) (c:Nat) ((sB f c).2.2.1:Nat) x tn fm → H 66 = aN 80 f → ND H 50 51 (sB f c).2.2.2 → ND H 52 53 1 → zFr [47, 50, 51, 52, 53] h H → (zV X (fun r h' n' => r = some (.int (iI (bz (sOk f c)))) ∧ n' = n ∧ (∃ (dg pw : Int) (D : Nat), h' 47 = oModel vs vm ve (cond (decide (hr f c 0 = 45)) (-1) 1) 0 1 th tp wr (sAt f c:Nat) (c:Nat) dg pw tn fm ∧ ND h' 50 51 D ∧ ND h' 52 53 1 ∧ D < 10 ^ 60 ∧ (sOk f c = true → pw = sTens f c ∧ D = (sB f c).2.2.2)) ∧ zFr [47, 50, 51, 52, 53] h h') cX11_isDecimal 2 RX11 (some .boolean) d 0 0 99 [(0, .ref 47)] [] H n 0 0) := by
    intro H x ex hAk hBk h_47 h_66 hA hB fr
    have hh := hr_r hf c (sB f c).2.1
    refine v_aload_n dX11_isDecimal_99 rfl ?_
    refine v_cV (av := []) (st := []) zyX11_here lX11_264 h_47 rfl (p_Mhere (d := 2) h_47 h_66 hc (by omega)) dX11_isDecimal_100 rfl rfl (Nat.le_of_ble_eq_true rfl) (by omega) (Nat.le_of_ble_eq_true rfl) (Nat.le_of_ble_eq_true rfl) (Or.inl (fun _ _ _ q => ZN q)) (fun r9 K1 n9 q9 => ?_)
    obtain ⟨rfl, q9n, q9h⟩ := q9
    have q9n := q9n.symm
    subst q9n
    have q9h := q9h.symm
    subst q9h
    refine v_bipush (iI 101) dX11_isDecimal_103 rfl ?_
    refine w_icmp_ne 127 dX11_isDecimal_105 (by decide) (by omega) (by decide) (fun c4 => ?_) (fun c4 => ?_)
    · have c4 : sE f c = false := decide_eq_false c4
      exact fin _ x 0 (by unfold sTens sX; rw [c4, cond_false, Int.zero_add]; exact ex) hAk hBk (by unfold sEok; rw [c4]; rfl) (by rw [show sEnd f c = (sB f c).2.1 from by unfold sEnd; rw [c4, cond_false]]; exact h_47) hA hB fr
    · have c4 : sE f c = true := decide_eq_true c4
      have hPb := sP_b c4
      refine v_aload_n dX11_isDecimal_108 rfl ?_
      refine v_dup dX11_isDecimal_109 rfl ?_
      refine v_get fX11_259 dX11_isDecimal_110 h_47 (by decide) rfl ?_
      refine v_iconst (iI 1) dX11_isDecimal_113 rfl ?_
      refine w_iadd dX11_isDecimal_114 ?_
      refine w_ei ((sB f c).2.1 + 1:Nat) (by omega) ?_
      refine v_put (fs' := [.int (iI vs), .long (jL vm), .int (iI ve), .ref 48, .ref 49, .int (iI (cond (decide (hr f c 0 = 45)) (-1) 1)), .ref 50, .ref 52, .int (iI 0), .int (iI 1), .ref 54, .ref 56, .ref 58, .ref 59, .ref 62, .ref 64, .int (iI th), .ref 66, .int (iI tp), .ref 67, .int (iI wr), .int (iI ((sB f c).2.1 + 1:Nat)), .int (iI (c:Nat)), .int (iI ((sB f c).2.2.1:Nat)), .int (iI x), .ref 68, .ref 69, .ref 71, .int (iI tn), .ref 73, .int (iI fm), .ref 74, .ref 76]) fX11_259 dX11_isDecimal_115 h_47 (by decide) (Nat.le_of_ble_eq_true rfl) rfl rfl rfl (fun H1 eH1 => ?_)
      have h_47 : H1 47 = oModel vs vm ve (cond (decide (hr f c 0 = 45)) (-1) 1) 0 1 th tp wr ((sB f c).2.1 + 1:Nat) (c:Nat) ((sB f c).2.2.1:Nat) x tn fm := zf_same eH1
      have h_66 := (zf_ne eH1 (by decide)).trans h_66
      have fr := fr.put eH1 (by simp)
      refine v_aload_n dX11_isDecimal_118 rfl ?_
      have fz : zFr [47] H H1 := zFr.put zFr.rf eH1 (by simp)
      have hA := hA.fr fz (by decide) (by decide)
      have hB := hB.fr fz (by decide) (by decide)
      refine v_cV (av := []) (st := []) zyX11_isPowerTold lX11_282 h_47 rfl (p_isPowerTold (d := 2) h_47 h_66 hf hc (by omega) (by decide)) dX11_isDecimal_119 rfl rfl (Nat.le_of_ble_eq_true rfl) (by omega) (Nat.le_of_ble_eq_true rfl) (Nat.le_of_ble_eq_true rfl) (Or.inl (fun _ _ _ q => ZN q)) (fun r9 G5 n9 q9 => ?_)
      obtain ⟨rfl, q9n, h_47, fr7⟩ := q9
      have q9n := q9n.symm
      subst q9n
      refine w_ei (bz (decide (sgnAt f c ((sB f c).2.1 + 1) < (sP f c).1))) rfl ?_
      have fr := fr.tr fr7 (by decide)
      have hA := hA.fr fr7 (by decide) (by decide)
      have hB := hB.fr fr7 (by decide) (by decide)
      have eEnd : sEnd f c = (sP f c).1 := by unfold sEnd; rw [c4, cond_true]
      have eX : sX f c = (cond (decide (hr f c ((sB f c).2.1 + 1) = 45)) (-((sP f c).2 : Int)) (sP f c).2) := by unfold sX; rw [c4, cond_true]
      refine w_ifb_ne 127 dX11_isDecimal_122 (by decide) (fun c5 => ?_) (fun c5 => ?_)
      · exact fin _ (x + sX f c) 0 (by unfold sTens; rw [ex, Int.add_comm]) hAk hBk (by unfold sEok; rw [c4, c5]; rfl) (by rw [eEnd, eX]; exact h_47) hA hB fr
      · have eEk : sEok f c = false := by unfold sEok; rw [c4, c5]; rfl
        have eOk : sOk f c = false := by unfold sOk; rw [hAk, hBk, eEk]; rfl
        have eAt : sAt f c = (sP f c).1 := by unfold sAt; rw [hAk, hBk, cond_true, cond_true, eEnd]
        refine v_iconst (iI 0) dX11_isDecimal_125 rfl ?_
        refine w_ei (bz false) rfl ?_
        exact v_iret dX11_isDecimal_126 bz_ret (Nat.le_of_ble_eq_true rfl) (Nat.le_of_ble_eq_true rfl) ⟨by rw [eOk], rfl, ⟨_, _, _, by rw [eAt]; exact h_47, hA, hB, by omega, fun z => by rw [eOk] at z; exact absurd z (by decide)⟩, fr⟩
  have j47 : ∀ (H : zH), H 47 = oModel vs vm ve (cond (decide (hr f c 0 = 45)) (-1) 1) 0 1 th tp wr (sI f c:Nat) (c:Nat) (0:Nat) 0 tn fm → H 66 = aN 80 f → ND H 50 51 0 → ND H 52 53 1 → zFr [47, 50, 51, 52, 53] h H → (zV X (fun r h' n' => r = some (.int (iI (bz (sOk f c)))) ∧ n' = n ∧ (∃ (dg pw : Int) (D : Nat), h' 47 = oModel vs vm ve (cond (decide (hr f c 0 = 45)) (-1) 1) 0 1 th tp wr (sAt f c:Nat) (c:Nat) dg pw tn fm ∧ ND h' 50 51 D ∧ ND h' 52 53 1 ∧ D < 10 ^ 60 ∧ (sOk f c = true → pw = sTens f c ∧ D = (sB f c).2.2.2)) ∧ zFr [47, 50, 51, 52, 53] h h') cX11_isDecimal 2 RX11 (some .boolean) d 0 0 47 [(0, .ref 47)] [] H n 0 0) := by
    intro H h_47 h_66 hA hB fr
    refine v_aload_n dX11_isDecimal_47 rfl ?_
    refine v_cV (av := []) (st := []) zyX11_isNumber lX11_279 h_47 rfl (p_isNumber (d := 2) (tk := 0) (D := 0) h_47 h_66 hA hf hc (by omega) (by decide) (by decide) (by decide)) dX11_isDecimal_48 rfl rfl (Nat.le_of_ble_eq_true rfl) (by omega) (Nat.le_of_ble_eq_true rfl) (Nat.le_of_ble_eq_true rfl) (Or.inl (fun _ _ _ q => ZN q)) (fun r9 G3 n9 q9 => ?_)
    obtain ⟨rfl, q9n, h_47, hA, fr7⟩ := q9
    have q9n := q9n.symm
    subst q9n
    refine w_ei (bz (sAok f c)) rfl ?_
    have fr := fr.tr fr7 (by decide)
    have h_66 := (fr7 66 (by decide)).trans h_66
    have hB := hB.fr fr7 (by decide) (by decide)
    rw [show sdg f (c - sI f c) (sI f c) 0 0 = sA f c from rfl] at h_47 hA
    refine w_ifb_ne 56 dX11_isDecimal_51 (by decide) (fun c3 => ?_) (fun c3 => ?_)
    · have hh := hr_r hf c (sA f c).2.1
      refine v_aload_n dX11_isDecimal_56 rfl ?_
      refine v_cV (av := []) (st := []) zyX11_here lX11_264 h_47 rfl (p_Mhere (d := 2) h_47 h_66 hc (by omega)) dX11_isDecimal_57 rfl rfl (Nat.le_of_ble_eq_true rfl) (by omega) (Nat.le_of_ble_eq_true rfl) (Nat.le_of_ble_eq_true rfl) (Or.inl (fun _ _ _ q => ZN q)) (fun r9 K1 n9 q9 => ?_)
      obtain ⟨rfl, q9n, q9h⟩ := q9
      have q9n := q9n.symm
      subst q9n
      have q9h := q9h.symm
      subst q9h
      refine v_bipush (iI 46) dX11_isDecimal_60 rfl ?_
      refine w_icmp_ne 99 dX11_isDecimal_62 (by decide) (by omega) (by decide) (fun c4 => ?_) (fun c4 => ?_)
      · have c4 : sDot f c = false := decide_eq_false c4
        have eB : sB f c = (true, (sA f c).2) := by unfold sB; rw [c4, cond_false]
        exact j99 _ 0 (by rw [eB]; exact (Int.sub_self _).symm) c3 (by unfold sBok; rw [c4]; rfl) (by rw [eB]; exact h_47) h_66 (by rw [eB]; exact hA) hB fr
      · have q2 := c4
        have c4 : sDot f c = true := decide_eq_true c4
        have eB : sB f c = sdg f (c - ((sA f c).2.1 + 1)) ((sA f c).2.1 + 1) (sA f c).2.2.1 (sA f c).2.2.2 := by unfold sB; rw [c4, cond_true]
        have hin := hr_in (f := f) (c := c) (i := (sA f c).2.1) (by omega)
        refine v_aload_n dX11_isDecimal_65 rfl ?_
        refine v_dup dX11_isDecimal_66 rfl ?_
        refine v_get fX11_259 dX11_isDecimal_67 h_47 (by decide) rfl ?_
        refine v_iconst (iI 1) dX11_isDecimal_70 rfl ?_
        refine w_iadd dX11_isDecimal_71 ?_
        refine w_ei ((sA f c).2.1 + 1:Nat) (by omega) ?_
        refine v_put (fs' := [.int (iI vs), .long (jL vm), .int (iI ve), .ref 48, .ref 49, .int (iI (cond (decide (hr f c 0 = 45)) (-1) 1)), .ref 50, .ref 52, .int (iI 0), .int (iI 1), .ref 54, .ref 56, .ref 58, .ref 59, .ref 62, .ref 64, .int (iI th), .ref 66, .int (iI tp), .ref 67, .int (iI wr), .int (iI ((sA f c).2.1 + 1:Nat)), .int (iI (c:Nat)), .int (iI ((sA f c).2.2.1:Nat)), .int (iI 0), .ref 68, .ref 69, .ref 71, .int (iI tn), .ref 73, .int (iI fm), .ref 74, .ref 76]) fX11_259 dX11_isDecimal_72 h_47 (by decide) (Nat.le_of_ble_eq_true rfl) rfl rfl rfl (fun H1 eH1 => ?_)
        have h_47 : H1 47 = oModel vs vm ve (cond (decide (hr f c 0 = 45)) (-1) 1) 0 1 th tp wr ((sA f c).2.1 + 1:Nat) (c:Nat) ((sA f c).2.2.1:Nat) 0 tn fm := zf_same eH1
        have h_66 := (zf_ne eH1 (by decide)).trans h_66
        have fr := fr.put eH1 (by simp)
        refine v_aload_n dX11_isDecimal_75 rfl ?_
        refine v_get fX11_271 dX11_isDecimal_76 h_47 (by decide) rfl ?_
        refine v_istore_n (i := 1) (lv' := [(1, .int (iI ((sA f c).2.2.1:Nat))), (0, .ref 47)]) dX11_isDecimal_79 rfl (by decide) rfl ?_
        refine v_aload_n dX11_isDecimal_80 rfl ?_
        have fz : zFr [47] G3 H1 := zFr.put zFr.rf eH1 (by simp)
        have hA := hA.fr fz (by decide) (by decide)
        have hB := hB.fr fz (by decide) (by decide)
        refine v_cV (av := []) (st := []) zyX11_isNumber lX11_279 h_47 rfl (p_isNumber (d := 2) h_47 h_66 hA hf hc (by omega) (by omega) (by omega) (by decide)) dX11_isDecimal_81 rfl rfl (Nat.le_of_ble_eq_true rfl) (by omega) (Nat.le_of_ble_eq_true rfl) (Nat.le_of_ble_eq_true rfl) (Or.inl (fun _ _ _ q => ZN q)) (fun r9 G5 n9 q9 => ?_)
        obtain ⟨rfl, q9n, h_47, hA, fr5⟩ := q9
        have q9n := q9n.symm
        subst q9n
        rw [← eB] at h_47 hA ⊢
        have fr := fr.tr fr5 (by decide)
        have h_66 := (fr5 66 (by decide)).trans h_66
        have hB := hB.fr fr5 (by decide) (by decide)
        refine w_ifb_ne 89 dX11_isDecimal_84 (by decide) (fun c5 => ?_) (fun c5 => ?_)
        · skip
          refine v_aload_n dX11_isDecimal_89 rfl ?_
          refine v_iload_n dX11_isDecimal_90 rfl ?_
          refine v_aload_n dX11_isDecimal_91 rfl ?_
          refine v_get fX11_271 dX11_isDecimal_92 h_47 (by decide) rfl ?_
          refine w_isub dX11_isDecimal_95 ?_
          refine v_put (fs' := [.int (iI vs), .long (jL vm), .int (iI ve), .ref 48, .ref 49, .int (iI (cond (decide (hr f c 0 = 45)) (-1) 1)), .ref 50, .ref 52, .int (iI 0), .int (iI 1), .ref 54, .ref 56, .ref 58, .ref 59, .ref 62, .ref 64, .int (iI th), .ref 66, .int (iI tp), .ref 67, .int (iI wr), .int (iI ((sB f c).2.1:Nat)), .int (iI (c:Nat)), .int (iI ((sB f c).2.2.1:Nat)), .int (iI (((sA f c).2.2.1:Nat) - ((sB f c).2.2.1:Nat))), .ref 68, .ref 69, .ref 71, .int (iI tn), .ref 73, .int (iI fm), .ref 74, .ref 76]) fX11_276 dX11_isDecimal_96 h_47 (by decide) (Nat.le_of_ble_eq_true rfl) rfl rfl rfl (fun H2 eH2 => ?_)
          have h_47 : H2 47 = oModel vs vm ve (cond (decide (hr f c 0 = 45)) (-1) 1) 0 1 th tp wr ((sB f c).2.1:Nat) (c:Nat) ((sB f c).2.2.1:Nat) (((sA f c).2.2.1:Nat) - ((sB f c).2.2.1:Nat)) tn fm := zf_same eH2
          have h_66 := (zf_ne eH2 (by decide)).trans h_66
          have fr := fr.put eH2 (by simp)
          have fz : zFr [47] G5 H2 := zFr.put zFr.rf eH2 (by simp)
          refine w_sub (lv2 := [(0, .ref 47)]) [1] rfl ?_
          exact j99 _ _ rfl c3 (by unfold sBok; rw [c4, c5]; rfl) h_47 h_66 (hA.fr fz (by decide) (by decide)) (hB.fr fz (by decide) (by decide)) fr
        · have eBk : sBok f c = false := by unfold sBok; rw [c4, c5]; rfl
          have eOk : sOk f c = false := by unfold sOk; rw [c3, eBk]; rfl
          have eAt : sAt f c = (sB f c).2.1 := by unfold sAt; rw [c3, eBk, cond_true, cond_false]
          refine v_iconst (iI 0) dX11_isDecimal_87 rfl ?_
          refine w_ei (bz false) rfl ?_
          exact v_iret dX11_isDecimal_88 bz_ret (Nat.le_of_ble_eq_true rfl) (Nat.le_of_ble_eq_true rfl) ⟨by rw [eOk], rfl, ⟨_, _, _, by rw [eAt]; exact h_47, hA, hB, by omega, fun z => by rw [eOk] at z; exact absurd z (by decide)⟩, fr⟩
    · have eOk : sOk f c = false := by unfold sOk; rw [c3]; rfl
      have eAt : sAt f c = (sA f c).2.1 := by unfold sAt; rw [c3, cond_false]
      refine v_iconst (iI 0) dX11_isDecimal_54 rfl ?_
      refine w_ei (bz false) rfl ?_
      exact v_iret dX11_isDecimal_55 bz_ret (Nat.le_of_ble_eq_true rfl) (Nat.le_of_ble_eq_true rfl) ⟨by rw [eOk], rfl, ⟨_, _, _, by rw [eAt]; exact h_47, hA, hB, by omega, fun z => by rw [eOk] at z; exact absurd z (by decide)⟩, fr⟩
  refine v_aload_n dX11_isDecimal_0 rfl ?_
  refine v_iconst (iI 1) dX11_isDecimal_1 rfl ?_
  refine v_cV (av := [.int (iI 1)]) (st := []) zyX11_begin lX11_119 h_47 rfl (p_begin (d := 2) h_47 hA hB (by decide)) dX11_isDecimal_2 rfl rfl (Nat.le_of_ble_eq_true rfl) (by omega) (Nat.le_of_ble_eq_true rfl) (Nat.le_of_ble_eq_true rfl) (Or.inl (fun _ _ _ q => ZN q)) (fun r9 G1 n9 q9 => ?_)
  obtain ⟨rfl, q9n, h_47, hA, hB, fr9⟩ := q9
  have q9n := q9n.symm
  subst q9n
  have h_66 := (fr9 66 (by decide)).trans h_66
  have fr := fr.tr fr9 (by decide)
  obtain ⟨u9, f9, h_50, -⟩ := id hA
  refine v_aload_n dX11_isDecimal_5 rfl ?_
  refine v_get fX11_35 dX11_isDecimal_6 h_47 (by decide) rfl ?_
  refine v_iconst (iI 0) dX11_isDecimal_9 rfl ?_
  refine v_putN (fs' := [.ref 51, .int (iI 0)]) fX11_206 dX11_isDecimal_10 h_50 (by decide) (Nat.le_of_ble_eq_true rfl) rfl rfl rfl (fun H1 eH1 => ?_)
  have h_50 : H1 50 = oNat 51 0 := zf_same eH1
  have h_47 := (zf_ne eH1 (by decide)).trans h_47
  have h_66 := (zf_ne eH1 (by decide)).trans h_66
  have fr := fr.put eH1 (by simp)
  refine v_aload_n dX11_isDecimal_13 rfl ?_
  refine v_iconst (iI 0) dX11_isDecimal_14 rfl ?_
  refine v_put (fs' := [.int (iI vs), .long (jL vm), .int (iI ve), .ref 48, .ref 49, .int (iI 1), .ref 50, .ref 52, .int (iI 0), .int (iI 1), .ref 54, .ref 56, .ref 58, .ref 59, .ref 62, .ref 64, .int (iI th), .ref 66, .int (iI tp), .ref 67, .int (iI wr), .int (iI 0), .int (iI (c:Nat)), .int (iI 0), .int (iI pw), .ref 68, .ref 69, .ref 71, .int (iI tn), .ref 73, .int (iI fm), .ref 74, .ref 76]) fX11_271 dX11_isDecimal_15 h_47 (by decide) (Nat.le_of_ble_eq_true rfl) rfl rfl rfl (fun H2 eH2 => ?_)
  have h_47 : H2 47 = oModel vs vm ve 1 0 1 th tp wr 0 (c:Nat) 0 pw tn fm := zf_same eH2
  have h_66 := (zf_ne eH2 (by decide)).trans h_66
  have h_50 := (zf_ne eH2 (by decide)).trans h_50
  have fr := fr.put eH2 (by simp)
  refine v_aload_n dX11_isDecimal_18 rfl ?_
  refine v_iconst (iI 0) dX11_isDecimal_19 rfl ?_
  refine v_put (fs' := [.int (iI vs), .long (jL vm), .int (iI ve), .ref 48, .ref 49, .int (iI 1), .ref 50, .ref 52, .int (iI 0), .int (iI 1), .ref 54, .ref 56, .ref 58, .ref 59, .ref 62, .ref 64, .int (iI th), .ref 66, .int (iI tp), .ref 67, .int (iI wr), .int (iI 0), .int (iI (c:Nat)), .int (iI 0), .int (iI 0), .ref 68, .ref 69, .ref 71, .int (iI tn), .ref 73, .int (iI fm), .ref 74, .ref 76]) fX11_276 dX11_isDecimal_20 h_47 (by decide) (Nat.le_of_ble_eq_true rfl) rfl rfl rfl (fun H3 eH3 => ?_)
  have h_47 : H3 47 = oModel vs vm ve 1 0 1 th tp wr 0 (c:Nat) 0 0 tn fm := zf_same eH3
  have h_66 := (zf_ne eH3 (by decide)).trans h_66
  have h_50 := (zf_ne eH3 (by decide)).trans h_50
  have fr := fr.put eH3 (by simp)
  refine v_aload_n dX11_isDecimal_23 rfl ?_
  have hA : ND H1 50 51 0 := ND.zero hA (zf_ne eH1 (by decide)) (zf_same eH1)
  have hB : ND H1 52 53 1 := hB.fr (zFr.put (S := [50]) zFr.rf eH1 (by simp)) (by decide) (by decide)
  have fz : zFr [47] H1 H3 := (zFr.put zFr.rf eH2 (by simp)).put eH3 (by simp)
  have hA := hA.fr fz (by decide) (by decide)
  have hB := hB.fr fz (by decide) (by decide)
  refine v_cV (av := []) (st := []) zyX11_here lX11_264 h_47 rfl (p_Mhere (d := 2) (i := 0) h_47 h_66 hc (by omega)) dX11_isDecimal_24 rfl rfl (Nat.le_of_ble_eq_true rfl) (by omega) (Nat.le_of_ble_eq_true rfl) (Nat.le_of_ble_eq_true rfl) (Or.inl (fun _ _ _ q => ZN q)) (fun r9 K1 n9 q9 => ?_)
  obtain ⟨rfl, q9n, q9h⟩ := q9
  have q9n := q9n.symm
  subst q9n
  have q9h := q9h.symm
  subst q9h
  refine v_bipush (iI 45) dX11_isDecimal_27 rfl ?_
  refine w_icmp_ne 47 dX11_isDecimal_29 (by decide) (by omega) (by decide) (fun c1 => ?_) (fun c1 => ?_)
  · exact j47 _ (by rw [show sI f c = 0 from by unfold sI; rw [decide_eq_false c1, cond_false], decide_eq_false c1]; exact h_47) h_66 hA hB fr
  · skip
    refine v_aload_n dX11_isDecimal_32 rfl ?_
    refine v_iconst (iI (-1)) dX11_isDecimal_33 rfl ?_
    refine v_put (fs' := [.int (iI vs), .long (jL vm), .int (iI ve), .ref 48, .ref 49, .int (iI (-1)), .ref 50, .ref 52, .int (iI 0), .int (iI 1), .ref 54, .ref 56, .ref 58, .ref 59, .ref 62, .ref 64, .int (iI th), .ref 66, .int (iI tp), .ref 67, .int (iI wr), .int (iI 0), .int (iI (c:Nat)), .int (iI 0), .int (iI 0), .ref 68, .ref 69, .ref 71, .int (iI tn), .ref 73, .int (iI fm), .ref 74, .ref 76]) fX11_32 dX11_isDecimal_34 h_47 (by decide) (Nat.le_of_ble_eq_true rfl) rfl rfl rfl (fun H4 eH4 => ?_)
    have h_47 : H4 47 = oModel vs vm ve (-1) 0 1 th tp wr 0 (c:Nat) 0 0 tn fm := zf_same eH4
    have h_66 := (zf_ne eH4 (by decide)).trans h_66
    have h_50 := (zf_ne eH4 (by decide)).trans h_50
    have fr := fr.put eH4 (by simp)
    refine v_aload_n dX11_isDecimal_37 rfl ?_
    refine v_dup dX11_isDecimal_38 rfl ?_
    refine v_get fX11_259 dX11_isDecimal_39 h_47 (by decide) rfl ?_
    refine v_iconst (iI 1) dX11_isDecimal_42 rfl ?_
    refine w_iadd dX11_isDecimal_43 ?_
    refine w_ei 1 rfl ?_
    refine v_put (fs' := [.int (iI vs), .long (jL vm), .int (iI ve), .ref 48, .ref 49, .int (iI (-1)), .ref 50, .ref 52, .int (iI 0), .int (iI 1), .ref 54, .ref 56, .ref 58, .ref 59, .ref 62, .ref 64, .int (iI th), .ref 66, .int (iI tp), .ref 67, .int (iI wr), .int (iI 1), .int (iI (c:Nat)), .int (iI 0), .int (iI 0), .ref 68, .ref 69, .ref 71, .int (iI tn), .ref 73, .int (iI fm), .ref 74, .ref 76]) fX11_259 dX11_isDecimal_44 h_47 (by decide) (Nat.le_of_ble_eq_true rfl) rfl rfl rfl (fun H5 eH5 => ?_)
    have h_47 : H5 47 = oModel vs vm ve (-1) 0 1 th tp wr 1 (c:Nat) 0 0 tn fm := zf_same eH5
    have h_66 := (zf_ne eH5 (by decide)).trans h_66
    have h_50 := (zf_ne eH5 (by decide)).trans h_50
    have fr := fr.put eH5 (by simp)
    have fz : zFr [47] H3 H5 := (zFr.put zFr.rf eH4 (by simp)).put eH5 (by simp)
    exact j47 _ (by rw [show sI f c = 1 from by unfold sI; rw [decide_eq_true c1, cond_true], decide_eq_true c1]; exact h_47) h_66 (hA.fr fz (by decide) (by decide)) (hB.fr fz (by decide) (by decide)) fr
/-- the posit that a text gives -/
noncomputable def mrd (f : Nat → Nat) (c w : Nat) : Nat := cond (sN f c) (2 ^ (w - 1)) (rdR (if (sB f c).2.2.2 = 0 then 0 else cond (decide (hr f c 0 = 45)) (-1) 1) (CP ((sB f c).2.2.2 * 10 ^ (sTens f c).toNat) (10 ^ (-sTens f c).toNat) 0 1) w)
def rdOk (f : Nat → Nat) (c : Nat) : Bool := cond (sN f c) (nOk f c) (sOk f c)
def rdAt (f : Nat → Nat) (c : Nat) : Nat := cond (sN f c) (nAt f c) (sAt f c)
theorem sT_b {f : Nat → Nat} {c : Nat} : -1100 ≤ sTens f c ∧ sTens f c ≤ 1100 := by
  have bA := sA_b (f := f) (c := c)
  have bB := sB_b (f := f) (c := c)
  have h1 : -1000 ≤ sX f c ∧ sX f c ≤ 1000 := by
    unfold sX
    rcases Bool.eq_false_or_eq_true (sE f c) with q | q
    · rw [q, cond_true]
      have := sP_b q
      cases decide (hr f c ((sB f c).2.1 + 1) = 45)
      · rw [cond_false]; omega
      · rw [cond_true]; omega
    · rw [q, cond_false]; omega
  unfold sTens
  omega
theorem p10_b {k : Nat} (h : k ≤ 1100) : nb (10 ^ k) ≤ 4400 := by
  apply nb_le
  have h1 : (10 : Nat) ^ k ≤ 16 ^ k := Nat.pow_le_pow_left (by decide) k
  have h2 : (16 : Nat) ^ k = 2 ^ (4 * k) := by rw [Nat.pow_mul]
  have h3 : 2 ^ (4 * k) ≤ 2 ^ 4400 := Nat.pow_le_pow_right (by decide) (by omega)
  have h4 : (10 : Nat) ^ k < 2 ^ (4 * k) ∨ k = 0 := by
    rcases Nat.eq_zero_or_pos k with q | q
    · exact Or.inr q
    · exact Or.inl (by rw [← h2]; exact Nat.pow_lt_pow_left (by decide) (by omega))
  rcases h4 with h4 | h4
  · omega
  · rw [h4]; exact Nat.one_lt_two_pow (by decide)
theorem nb10 {D k : Nat} (h : k ≤ 1100) (hD : D < 10 ^ 60) : nb (D * 10 ^ k) ≤ 4600 := by
  have h1 := nb_mul2 (x := D) (y := 10 ^ k)
  have h2 := p10_b h
  have h3 : nb D ≤ 200 := nb_le (Nat.lt_trans hD (by decide))
  omega
theorem lt12 {x : Nat} (h : nb x ≤ 6000) : x < 2 ^ 12000 := Nat.lt_of_lt_of_le (nb_hi x) (Nat.pow_le_pow_right (by decide) (by omega))
theorem ND.z {h : zH} {a b v u : Nat} {g : Nat → Nat} (h2 : nw g) (h4 : u = 0 ∨ g (u - 1) ≠ 0) (hv : nv g u = v) : (u = 0 ↔ v = 0) := by
  constructor
  · intro z; rw [← hv, z]; rfl
  · intro z
    rcases ND.top h4 with q | q
    · exact q
    · rw [hv, z] at q; exact absurd q (by have := p_pos (30 * (u - 1)); omega)
set_option maxHeartbeats 8000000 in
set_option maxRecDepth 100000 in
theorem p_Mread {d n tc a3 : Nat} {wd pt tf : Nat → Nat} {Q : Nat → Int} {qn : Nat → Bool} {L : List Nat} {th : Int} {h : zH} (hM : MD h wd pt Q qn tf tc L th) (hPL : PL wd pt) (h3 : a3 < 32) (hf : bb tf) (hc : tc ≤ 80) (hk : zk h n) (hn : 90 ≤ n) (hd : 7 ≤ d) :
    zM yX11_read cX11_read 4 (some .int) d 1 3 [.ref 47, .int (iI (a3:Nat))] h n (fun r9 h' n' => r9 = some (.int (iI (cond (rdOk tf tc) 0 (-1 - (rdAt tf tc : Int))))) ∧ n' = n ∧ MD h' wd (cond (rdOk tf tc) (zup pt a3 (mrd tf tc (wd a3))) pt) Q qn tf 0 L 0 ∧ zFr MOL h h') := by
  obtain ⟨vs, vm, ve, sg, e, rt, at9, sz, dg, pw, tn, fm, h_47, h_48, h_49, ⟨nA, nB, nL, nR, nP, nS, nN, nD, nLo, nUp⟩, h_58, ⟨Q0, n0, hS⟩, hq, h_66, ⟨tx, h_67, hbb, htx⟩, ⟨fg, h_68⟩, ⟨fw, h_73⟩⟩ := id hM
  have w3 := hPL a3 h3
  have hh0 := hr_r hf tc 0
  have bB := sB_b (f := tf) (c := tc)
  have bT := sT_b (f := tf) (c := tc)
  refine zM_of zyX11_read rfl (Nat.le_of_ble_eq_true rfl) (fun X hX => ?_)
  have fr : zFr MOL h h := zFr.rf
  refine v_aload_n dX11_read_0 rfl ?_
  refine v_iload_n dX11_read_1 rfl ?_
  refine v_cS (av := [.int (iI (a3:Nat))]) (st := [.ref 47]) zyX11_isPlace lX11_165 (p_isPlaceT (d := 6) h3) dX11_read_2 rfl rfl (Nat.le_of_ble_eq_true rfl) (by omega) (Nat.le_of_ble_eq_true rfl) (Nat.le_of_ble_eq_true rfl) (Or.inl (fun _ _ _ q => ZN q)) (fun r9 K1 n9 q9 => ?_)
  obtain ⟨rfl, q9n, q9h⟩ := q9
  have q9n := q9n.symm
  subst q9n
  have q9h := q9h.symm
  subst q9h
  refine v_iconst (iI 1) dX11_read_5 rfl ?_
  refine w_ei (bz true) rfl ?_
  refine v_cV (av := [.int (iI (bz true)), .int (iI (bz true))]) (st := []) zyX11_goes lX11_172 h_47 rfl (p_goesT (d := 6) h_47) dX11_read_6 rfl rfl (Nat.le_of_ble_eq_true rfl) (by omega) (Nat.le_of_ble_eq_true rfl) (Nat.le_of_ble_eq_true rfl) (Or.inl (fun _ _ _ q => ZN q)) (fun r9 G1 n9 q9 => ?_)
  obtain ⟨rfl, q9n, h_47, fr9⟩ := q9
  have q9n := q9n.symm
  subst q9n
  have h_48 := (fr9 48 (by decide)).trans h_48
  have h_49 := (fr9 49 (by decide)).trans h_49
  have h_58 := (fr9 58 (by decide)).trans h_58
  have h_66 := (fr9 66 (by decide)).trans h_66
  have h_67 := (fr9 67 (by decide)).trans h_67
  have h_68 := (fr9 68 (by decide)).trans h_68
  have h_73 := (fr9 73 (by decide)).trans h_73
  have nA := nA.fr fr9 (by decide) (by decide)
  have nB := nB.fr fr9 (by decide) (by decide)
  have nL := nL.fr fr9 (by decide) (by decide)
  have nR := nR.fr fr9 (by decide) (by decide)
  have nP := nP.fr fr9 (by decide) (by decide)
  have nS := nS.fr fr9 (by decide) (by decide)
  have nN := nN.fr fr9 (by decide) (by decide)
  have nD := nD.fr fr9 (by decide) (by decide)
  have nLo := nLo.fr fr9 (by decide) (by decide)
  have nUp := nUp.fr fr9 (by decide) (by decide)
  have hS := hS.fr fr9 (by decide) (by decide) (by decide)
  have hq := hq.fr fr9 (by decide)
  have fr := fr.tr fr9 (by decide)
  refine w_ifb_ne 14 dX11_read_9 (by decide) (fun c1 => ?_) (fun c1 => ?_)
  · skip
    refine v_aload_n dX11_read_14 rfl ?_
    refine v_iconst (iI 0) dX11_read_15 rfl ?_
    refine v_put (fs' := [.int (iI vs), .long (jL vm), .int (iI ve), .ref 48, .ref 49, .int (iI sg), .ref 50, .ref 52, .int (iI e), .int (iI rt), .ref 54, .ref 56, .ref 58, .ref 59, .ref 62, .ref 64, .int (iI 0), .ref 66, .int (iI (tc:Nat)), .ref 67, .int (iI (L.length:Nat)), .int (iI 0), .int (iI sz), .int (iI dg), .int (iI pw), .ref 68, .ref 69, .ref 71, .int (iI tn), .ref 73, .int (iI fm), .ref 74, .ref 76]) fX11_259 dX11_read_16 h_47 (by decide) (Nat.le_of_ble_eq_true rfl) rfl rfl rfl (fun H1 eH1 => ?_)
    have h_47 : H1 47 = oModel vs vm ve sg e rt 0 (tc:Nat) (L.length:Nat) 0 sz dg pw tn fm := zf_same eH1
    have h_48 := (zf_ne eH1 (by decide)).trans h_48
    have h_49 := (zf_ne eH1 (by decide)).trans h_49
    have h_66 := (zf_ne eH1 (by decide)).trans h_66
    have fr := fr.put eH1 (by simp)
    refine v_aload_n dX11_read_19 rfl ?_
    refine v_aload_n dX11_read_20 rfl ?_
    refine v_get fX11_254 dX11_read_21 h_47 (by decide) rfl ?_
    refine v_put (fs' := [.int (iI vs), .long (jL vm), .int (iI ve), .ref 48, .ref 49, .int (iI sg), .ref 50, .ref 52, .int (iI e), .int (iI rt), .ref 54, .ref 56, .ref 58, .ref 59, .ref 62, .ref 64, .int (iI 0), .ref 66, .int (iI (tc:Nat)), .ref 67, .int (iI (L.length:Nat)), .int (iI 0), .int (iI (tc:Nat)), .int (iI dg), .int (iI pw), .ref 68, .ref 69, .ref 71, .int (iI tn), .ref 73, .int (iI fm), .ref 74, .ref 76]) fX11_262 dX11_read_24 h_47 (by decide) (Nat.le_of_ble_eq_true rfl) rfl rfl rfl (fun H2 eH2 => ?_)
    have h_47 : H2 47 = oModel vs vm ve sg e rt 0 (tc:Nat) (L.length:Nat) 0 (tc:Nat) dg pw tn fm := zf_same eH2
    have h_48 := (zf_ne eH2 (by decide)).trans h_48
    have h_49 := (zf_ne eH2 (by decide)).trans h_49
    have h_66 := (zf_ne eH2 (by decide)).trans h_66
    have fr := fr.put eH2 (by simp)
    refine v_aload_n dX11_read_27 rfl ?_
    refine v_iconst (iI 0) dX11_read_28 rfl ?_
    refine v_put (fs' := [.int (iI vs), .long (jL vm), .int (iI ve), .ref 48, .ref 49, .int (iI sg), .ref 50, .ref 52, .int (iI e), .int (iI rt), .ref 54, .ref 56, .ref 58, .ref 59, .ref 62, .ref 64, .int (iI 0), .ref 66, .int (iI 0), .ref 67, .int (iI (L.length:Nat)), .int (iI 0), .int (iI (tc:Nat)), .int (iI dg), .int (iI pw), .ref 68, .ref 69, .ref 71, .int (iI tn), .ref 73, .int (iI fm), .ref 74, .ref 76]) fX11_254 dX11_read_29 h_47 (by decide) (Nat.le_of_ble_eq_true rfl) rfl rfl rfl (fun H3 eH3 => ?_)
    have h_47 : H3 47 = oModel vs vm ve sg e rt 0 0 (L.length:Nat) 0 (tc:Nat) dg pw tn fm := zf_same eH3
    have h_48 := (zf_ne eH3 (by decide)).trans h_48
    have h_49 := (zf_ne eH3 (by decide)).trans h_49
    have h_66 := (zf_ne eH3 (by decide)).trans h_66
    have fr := fr.put eH3 (by simp)
    refine v_aload_n dX11_read_32 rfl ?_
    have fz : zFr [47] G1 H3 := ((zFr.put zFr.rf eH1 (by simp)).put eH2 (by simp)).put eH3 (by simp)
    have h_58 := (fz 58 (by decide)).trans h_58
    have h_67 := (fz 67 (by decide)).trans h_67
    have h_68 := (fz 68 (by decide)).trans h_68
    have h_73 := (fz 73 (by decide)).trans h_73
    have nA := nA.fr fz (by decide) (by decide)
    have nB := nB.fr fz (by decide) (by decide)
    have nL := nL.fr fz (by decide) (by decide)
    have nR := nR.fr fz (by decide) (by decide)
    have nP := nP.fr fz (by decide) (by decide)
    have nS := nS.fr fz (by decide) (by decide)
    have nN := nN.fr fz (by decide) (by decide)
    have nD := nD.fr fz (by decide) (by decide)
    have nLo := nLo.fr fz (by decide) (by decide)
    have nUp := nUp.fr fz (by decide) (by decide)
    have hS := hS.fr fz (by decide) (by decide) (by decide)
    have hq := hq.fr fz (by decide)
    have hk : zk H3 n := zk_m (H := H3) hk hn (fun j hj => by
      have hj : j ≠ 47 := fun z => hj (by simp [z])
      rw [fz j (by simpa using hj), fr9 j (by simpa using hj)]) h_47
    have h_47 : H3 47 = oModel vs vm ve sg e rt 0 (0:Nat) (L.length:Nat) 0 (tc:Nat) dg pw tn fm := h_47
    refine v_cV (av := []) (st := []) zyX11_here lX11_264 h_47 rfl (p_Mhere (d := 6) (i := 0) h_47 h_66 hc (by omega)) dX11_read_33 rfl rfl (Nat.le_of_ble_eq_true rfl) (by omega) (Nat.le_of_ble_eq_true rfl) (Nat.le_of_ble_eq_true rfl) (Or.inl (fun _ _ _ q => ZN q)) (fun r9 K2 n9 q9 => ?_)
    obtain ⟨rfl, q9n, q9h⟩ := q9
    have q9n := q9n.symm
    subst q9n
    have q9h := q9h.symm
    subst q9h
    refine v_bipush (iI 78) dX11_read_36 rfl ?_
    refine w_icmp_ne 62 dX11_read_38 (by decide) (by omega) (by decide) (fun c2 => ?_) (fun c2 => ?_)
    · have eN : sN tf tc = false := decide_eq_false c2
      have eOk : rdOk tf tc = sOk tf tc := by unfold rdOk; rw [eN, cond_false]
      have eAt : rdAt tf tc = sAt tf tc := by unfold rdAt; rw [eN, cond_false]
      refine v_aload_n dX11_read_62 rfl ?_
      refine v_cV (av := []) (st := []) zyX11_isDecimal lX11_288 h_47 rfl (p_isDecimal (d := 6) h_47 h_66 nA nB hf hc (by decide)) dX11_read_63 rfl rfl (Nat.le_of_ble_eq_true rfl) (by omega) (Nat.le_of_ble_eq_true rfl) (Nat.le_of_ble_eq_true rfl) (Or.inl (fun _ _ _ q => ZN q)) (fun r9 G2 n9 q9 => ?_)
      obtain ⟨rfl, q9n, ⟨dg9, pw9, D, h_47, hA, hB, hD9, hfin⟩, fr8⟩ := q9
      have q9n := q9n.symm
      subst q9n
      have nA := hA.ns
      have nB := hB.ns
      have h_48 := (fr8 48 (by decide)).trans h_48
      have h_49 := (fr8 49 (by decide)).trans h_49
      have h_58 := (fr8 58 (by decide)).trans h_58
      have h_66 := (fr8 66 (by decide)).trans h_66
      have h_67 := (fr8 67 (by decide)).trans h_67
      have h_68 := (fr8 68 (by decide)).trans h_68
      have h_73 := (fr8 73 (by decide)).trans h_73
      have nL := nL.fr fr8 (by decide) (by decide)
      have nR := nR.fr fr8 (by decide) (by decide)
      have nP := nP.fr fr8 (by decide) (by decide)
      have nS := nS.fr fr8 (by decide) (by decide)
      have nN := nN.fr fr8 (by decide) (by decide)
      have nD := nD.fr fr8 (by decide) (by decide)
      have nLo := nLo.fr fr8 (by decide) (by decide)
      have nUp := nUp.fr fr8 (by decide) (by decide)
      have hS := hS.fr fr8 (by decide) (by decide) (by decide)
      have hq := hq.fr fr8 (by decide)
      have fr := fr.tr fr8 (by decide)
      refine w_ifb_ne 76 dX11_read_66 (by decide) (fun c3 => ?_) (fun c3 => ?_)
      · obtain ⟨epw, eD⟩ := hfin c3
        obtain ⟨u9, g9, h_50, hg1, hg2, hg3, hg4, hg5⟩ := id hA
        obtain ⟨u8, g8, h_52, -⟩ := id hB
        obtain ⟨sg9, esg⟩ : ∃ s : Int, s = (if (sB tf tc).2.2.2 = 0 then 0 else cond (decide (hr tf tc 0 = 45)) (-1) 1) := ⟨_, rfl⟩
        have hsg9 : -1 ≤ sg9 ∧ sg9 ≤ 1 := by
          rw [esg]; split
          · omega
          · cases decide (hr tf tc 0 = 45) <;> decide
        have hzero := ND.z (h := h) (a := 0) (b := 0) hg2 hg5 hg4
        rw [eOk, c3, cond_true, cond_true]
        have j95 : (zV X (fun r9 h' n' => r9 = some (.int (iI (cond (rdOk tf tc) 0 (-1 - (rdAt tf tc : Int))))) ∧ n' = n ∧ MD h' wd (cond (rdOk tf tc) (zup pt a3 (mrd tf tc (wd a3))) pt) Q qn tf 0 L 0 ∧ zFr MOL h h') cX11_read 4 RX11 (some .int) d 1 3 95 [(0, .ref 47), (1, .int (iI (a3:Nat)))] [.int (iI sg9), .ref 47] G2 n 0 0) := by
          rw [eOk, c3, cond_true, cond_true]
          refine v_put (fs' := [.int (iI vs), .long (jL vm), .int (iI ve), .ref 48, .ref 49, .int (iI sg9), .ref 50, .ref 52, .int (iI 0), .int (iI 1), .ref 54, .ref 56, .ref 58, .ref 59, .ref 62, .ref 64, .int (iI 0), .ref 66, .int (iI 0), .ref 67, .int (iI (L.length:Nat)), .int (iI (sAt tf tc:Nat)), .int (iI (tc:Nat)), .int (iI dg9), .int (iI pw9), .ref 68, .ref 69, .ref 71, .int (iI tn), .ref 73, .int (iI fm), .ref 74, .ref 76]) fX11_32 dX11_read_95 h_47 (by decide) (Nat.le_of_ble_eq_true rfl) rfl rfl rfl (fun H1 eH1 => ?_)
          have h_47 : H1 47 = oModel vs vm ve sg9 0 1 0 0 (L.length:Nat) (sAt tf tc:Nat) (tc:Nat) dg9 pw9 tn fm := zf_same eH1
          have h_48 := (zf_ne eH1 (by decide)).trans h_48
          have h_49 := (zf_ne eH1 (by decide)).trans h_49
          have h_66 := (zf_ne eH1 (by decide)).trans h_66
          have fr := fr.put eH1 (by simp)
          have fz : zFr [47] G2 H1 := zFr.put zFr.rf eH1 (by simp)
          have h_58 := (fz 58 (by decide)).trans h_58
          have h_67 := (fz 67 (by decide)).trans h_67
          have h_68 := (fz 68 (by decide)).trans h_68
          have h_73 := (fz 73 (by decide)).trans h_73
          have nA := nA.fr fz (by decide) (by decide)
          have nB := nB.fr fz (by decide) (by decide)
          have nL := nL.fr fz (by decide) (by decide)
          have nR := nR.fr fz (by decide) (by decide)
          have nP := nP.fr fz (by decide) (by decide)
          have nS := nS.fr fz (by decide) (by decide)
          have nN := nN.fr fz (by decide) (by decide)
          have nD := nD.fr fz (by decide) (by decide)
          have nLo := nLo.fr fz (by decide) (by decide)
          have nUp := nUp.fr fz (by decide) (by decide)
          have hS := hS.fr fz (by decide) (by decide) (by decide)
          have hq := hq.fr fz (by decide)
          have hA := hA.fr fz (by decide) (by decide)
          have hB := hB.fr fz (by decide) (by decide)
          have h_50 := (fz 50 (by decide)).trans h_50
          have h_52 := (fz 52 (by decide)).trans h_52
          have loop : ∀ (a9 b9 : Nat), (a9 = 50 ∧ b9 = 51 ∧ 0 ≤ pw9) ∨ (a9 = 52 ∧ b9 = 53 ∧ pw9 < 0) → ∀ (j k : Nat) (H : zH), k + j = pw9.natAbs → MD H wd pt Q qn tf 0 L 0 → H 47 = oModel vs vm ve sg9 0 1 0 0 (L.length:Nat) (sAt tf tc:Nat) (tc:Nat) dg9 pw9 tn fm → ND H 50 51 (if 0 ≤ pw9 then D * 10 ^ k else D) → ND H 52 53 (if 0 ≤ pw9 then 1 else 10 ^ k) → zFr MOL h H → (zV X (fun r9 h' n' => r9 = some (.int (iI (cond (rdOk tf tc) 0 (-1 - (rdAt tf tc : Int))))) ∧ n' = n ∧ MD h' wd (cond (rdOk tf tc) (zup pt a3 (mrd tf tc (wd a3))) pt) Q qn tf 0 L 0 ∧ zFr MOL h h') cX11_read 4 RX11 (some .int) d 1 3 119 [(0, .ref 47), (1, .int (iI (a3:Nat))), (2, .ref a9), (3, .int (iI (k:Nat)))] [] H n 0 0) := by
            rw [eOk, c3, cond_true, cond_true]
            intro a9 b9 hab j
            induction j with
            | zero =>
              intro k H hj hM h_47 hA hB fr
              have hk9 : k = pw9.natAbs := by omega
              obtain ⟨_, _, _, _, _, _, _, _, _, _, _, _, -, h_48, h_49, ⟨nA, nB, nL, nR, nP, nS, nN, nD, nLo, nUp⟩, h_58, ⟨Q0, n0, hS⟩, hq, h_66, ⟨tx, h_67, hbb, htx⟩, ⟨fg, h_68⟩, ⟨fw, h_73⟩⟩ := id hM
              refine v_iload_n dX11_read_119 rfl ?_
              refine v_aload_n dX11_read_120 rfl ?_
              refine v_get fX11_276 dX11_read_121 h_47 (by decide) rfl ?_
              refine v_cS (av := [.int (iI pw9)]) (st := [.int (iI (k:Nat))]) zyJ9_abs_0f7a4 lX11_240 (p_abs (d := 6) (a := pw9) (by omega)) dX11_read_124 rfl rfl (Nat.le_of_ble_eq_true rfl) (by omega) (Nat.le_of_ble_eq_true rfl) (Nat.le_of_ble_eq_true rfl) (Or.inl (fun _ _ _ q => ZN q)) (fun r9 K1 n9 q9 => ?_)
              obtain ⟨rfl, q9n, q9h⟩ := q9
              have q9n := q9n.symm
              subst q9n
              have q9h := q9h.symm
              subst q9h
              refine w_icmp_ge 144 dX11_read_127 (by decide) (by omega) (by omega) (fun b1 => ?_) (fun b1 => ?_)
              · skip
                refine v_aload_n dX11_read_144 rfl ?_
                refine v_iload_n dX11_read_145 rfl ?_
                have eA : (if 0 ≤ pw9 then D * 10 ^ k else D) = (sB tf tc).2.2.2 * 10 ^ (sTens tf tc).toNat := by
                  rw [← eD, ← epw]
                  by_cases z : 0 ≤ pw9
                  · rw [if_pos z, show k = pw9.toNat from by omega]
                  · rw [if_neg z, show pw9.toNat = 0 from by omega, Nat.pow_zero, Nat.mul_one]
                have eB : (if 0 ≤ pw9 then 1 else 10 ^ k) = 10 ^ (-sTens tf tc).toNat := by
                  rw [← epw]
                  by_cases z : 0 ≤ pw9
                  · rw [if_pos z, show (-pw9).toNat = 0 from by omega, Nat.pow_zero]
                  · rw [if_neg z, show k = (-pw9).toNat from by omega]
                rw [eA] at hA
                rw [eB] at hB
                have q1 : nb ((sB tf tc).2.2.2 * 10 ^ (sTens tf tc).toNat) ≤ 4600 := nb10 (by omega) (by rw [← eD]; exact hD9)
                have q2 : nb (10 ^ (-sTens tf tc).toNat) ≤ 4400 := p10_b (by omega)
                have q3 : (10 : Nat) ^ (-sTens tf tc).toNat ≠ 0 := by have := Nat.pow_pos (n := (-sTens tf tc).toNat) (show 0 < 10 by decide); omega
                have q4 : sg9 ≠ 0 → (sB tf tc).2.2.2 * 10 ^ (sTens tf tc).toNat ≠ 0 := fun z => by
                  have z2 : (sB tf tc).2.2.2 ≠ 0 := fun y => z (by rw [esg, if_pos y])
                  have := Nat.mul_pos (Nat.pos_of_ne_zero z2) (Nat.pow_pos (n := (sTens tf tc).toNat) (show 0 < 10 by decide))
                  omega
                refine v_cV (av := [.int (iI (a3:Nat))]) (st := []) zyX11_become lX11_185 h_47 rfl (p_become (d := 6) (rt := 1) h_47 h_48 h_49 hA hB nL nR hsg9 q4 (by omega) q3 (by omega) (by decide) (by decide) h3 ⟨w3.1, w3.2.1⟩ (by decide)) dX11_read_146 rfl rfl (Nat.le_of_ble_eq_true rfl) (by omega) (Nat.le_of_ble_eq_true rfl) (Nat.le_of_ble_eq_true rfl) (Or.inl (fun _ _ _ q => ZN q)) (fun r9 G6 n9 q9 => ?_)
                obtain ⟨rfl, q9n, ⟨v7, v8, v9, h_47⟩, h_49, nL, nR, fr4⟩ := q9
                have q9n := q9n.symm
                subst q9n
                have nA := hA.ns
                have nB := hB.ns
                have h_48 := (fr4 48 (by decide)).trans h_48
                have h_58 := (fr4 58 (by decide)).trans h_58
                have h_66 := (fr4 66 (by decide)).trans h_66
                have h_67 := (fr4 67 (by decide)).trans h_67
                have h_68 := (fr4 68 (by decide)).trans h_68
                have h_73 := (fr4 73 (by decide)).trans h_73
                have nA := nA.fr fr4 (by decide) (by decide)
                have nB := nB.fr fr4 (by decide) (by decide)
                have nP := nP.fr fr4 (by decide) (by decide)
                have nS := nS.fr fr4 (by decide) (by decide)
                have nN := nN.fr fr4 (by decide) (by decide)
                have nD := nD.fr fr4 (by decide) (by decide)
                have nLo := nLo.fr fr4 (by decide) (by decide)
                have nUp := nUp.fr fr4 (by decide) (by decide)
                have hS := hS.fr fr4 (by decide) (by decide) (by decide)
                have hq := hq.fr fr4 (by decide)
                have fr := fr.tr fr4 (by decide)
                rw [esg] at h_49
                rw [show rdR (if (sB tf tc).2.2.2 = 0 then 0 else cond (decide (hr tf tc 0 = 45)) (-1) 1) (CP ((sB tf tc).2.2.2 * 10 ^ (sTens tf tc).toNat) (10 ^ (-sTens tf tc).toNat) 0 1) (wd a3) = mrd tf tc (wd a3) from by unfold mrd; rw [eN, cond_false]] at h_49
                have h_47 : G6 47 = oModel v7 v8 v9 sg9 0 (1:Nat) 0 (0:Nat) (L.length:Nat) (sAt tf tc:Nat) (tc:Nat) dg9 pw9 tn fm := h_47
                refine v_iconst (iI 0) dX11_read_149 rfl ?_
                exact v_iret dX11_read_150 trivial (Nat.le_of_ble_eq_true rfl) (Nat.le_of_ble_eq_true rfl) ⟨rfl, rfl, ⟨_, _, _, _, _, _, _, _, _, _, _, _, h_47, h_48, h_49, ⟨nA, nB, nL, nR, nP, nS, nN, nD, nLo, nUp⟩, h_58, ⟨_, _, hS⟩, hq, h_66, ⟨_, h_67, hbb, htx⟩, ⟨_, h_68⟩, ⟨_, h_73⟩⟩, fr⟩
              · exact absurd b1 (by omega)
            | succ j ih =>
              intro k H hj hM h_47 hA hB fr
              obtain ⟨_, _, _, _, _, _, _, _, _, _, _, _, -, h_48, h_49, ⟨nA, nB, nL, nR, nP, nS, nN, nD, nLo, nUp⟩, h_58, ⟨Q0, n0, hS⟩, hq, h_66, ⟨tx, h_67, hbb, htx⟩, ⟨fg, h_68⟩, ⟨fw, h_73⟩⟩ := id hM
              have e1 : (k : Int) + 1 = ((k + 1 : Nat) : Int) := by omega
              rcases hab with ⟨ha, hb, hz⟩ | ⟨ha, hb, hz⟩
              · subst ha
                rw [if_pos hz] at hA
                rw [if_pos hz] at hB
                have q1 := nb10 (k := k) (show k ≤ 1100 by omega) hD9
                obtain ⟨_, _, h_50, -⟩ := id hA
                refine v_iload_n dX11_read_119 rfl ?_
                refine v_aload_n dX11_read_120 rfl ?_
                refine v_get fX11_276 dX11_read_121 h_47 (by decide) rfl ?_
                refine v_cS (av := [.int (iI pw9)]) (st := [.int (iI (k:Nat))]) zyJ9_abs_0f7a4 lX11_240 (p_abs (d := 6) (a := pw9) (by omega)) dX11_read_124 rfl rfl (Nat.le_of_ble_eq_true rfl) (by omega) (Nat.le_of_ble_eq_true rfl) (Nat.le_of_ble_eq_true rfl) (Or.inl (fun _ _ _ q => ZN q)) (fun r9 K1 n9 q9 => ?_)
                obtain ⟨rfl, q9n, q9h⟩ := q9
                have q9n := q9n.symm
                subst q9n
                have q9h := q9h.symm
                subst q9h
                refine w_icmp_ge 144 dX11_read_127 (by decide) (by omega) (by omega) (fun b1 => ?_) (fun b1 => ?_)
                · exact absurd b1 (by omega)
                · skip
                  refine v_aload_n dX11_read_130 rfl ?_
                  refine v_ldc2_w (v := jL 10) kX11_274 dX11_read_131 ?_
                  refine v_iconst (iI 0) dX11_read_134 rfl ?_
                  refine v_cV (av := [.long (jL 10), .int (iI 0)]) (st := []) zyX9_times lX11_64 h_50 rfl (p_ntimes (d := 6) (x := 10) (y := 0) hA (by decide) (by decide) (lt12 (by omega))) dX11_read_135 rfl rfl (Nat.le_of_ble_eq_true rfl) (by omega) (Nat.le_of_ble_eq_true rfl) (Nat.le_of_ble_eq_true rfl) (Or.inl (fun _ _ _ q => ZN q)) (fun r9 G4 n9 q9 => ?_)
                  obtain ⟨rfl, q9n, -, hA, fr7⟩ := q9
                  have q9n := q9n.symm
                  subst q9n
                  have hA := hA (by decide)
                  rw [Nat.add_zero, Nat.mul_assoc, ← Nat.pow_succ] at hA
                  have hB := hB.fr fr7 (by decide) (by decide)
                  have nA := hA.ns
                  have h_48 := (fr7 48 (by decide)).trans h_48
                  have h_49 := (fr7 49 (by decide)).trans h_49
                  have h_58 := (fr7 58 (by decide)).trans h_58
                  have h_66 := (fr7 66 (by decide)).trans h_66
                  have h_67 := (fr7 67 (by decide)).trans h_67
                  have h_68 := (fr7 68 (by decide)).trans h_68
                  have h_73 := (fr7 73 (by decide)).trans h_73
                  have nB := nB.fr fr7 (by decide) (by decide)
                  have nL := nL.fr fr7 (by decide) (by decide)
                  have nR := nR.fr fr7 (by decide) (by decide)
                  have nP := nP.fr fr7 (by decide) (by decide)
                  have nS := nS.fr fr7 (by decide) (by decide)
                  have nN := nN.fr fr7 (by decide) (by decide)
                  have nD := nD.fr fr7 (by decide) (by decide)
                  have nLo := nLo.fr fr7 (by decide) (by decide)
                  have nUp := nUp.fr fr7 (by decide) (by decide)
                  have hS := hS.fr fr7 (by decide) (by decide) (by decide)
                  have hq := hq.fr fr7 (by decide)
                  have fr := fr.tr fr7 (by decide)
                  have h_47 := (fr7 47 (by decide)).trans h_47
                  refine w_iinc (lv' := [(3, .int (iI ((k:Nat) + 1))), (0, .ref 47), (1, .int (iI (a3:Nat))), (2, .ref 50)]) dX11_read_138 rfl (by decide) rfl ?_
                  refine w_sub (lv2 := [(0, .ref 47), (1, .int (iI (a3:Nat))), (2, .ref 50), (3, .int (iI ((k:Nat) + 1)))]) [1, 2, 3, 0] rfl ?_
                  refine v_goto 119 dX11_read_141 (by decide) ?_
                  rw [e1]
                  exact ih (k + 1) G4 (by omega) ⟨_, _, _, _, _, _, _, _, _, _, _, _, h_47, h_48, h_49, ⟨nA, nB, nL, nR, nP, nS, nN, nD, nLo, nUp⟩, h_58, ⟨_, _, hS⟩, hq, h_66, ⟨_, h_67, hbb, htx⟩, ⟨_, h_68⟩, ⟨_, h_73⟩⟩ h_47 (by rw [if_pos hz]; exact hA) (by rw [if_pos hz]; exact hB) fr
              · subst ha
                rw [if_neg (by omega)] at hA
                rw [if_neg (by omega)] at hB
                have q1 := p10_b (k := k) (show k ≤ 1100 by omega)
                obtain ⟨_, _, h_52, -⟩ := id hB
                refine v_iload_n dX11_read_119 rfl ?_
                refine v_aload_n dX11_read_120 rfl ?_
                refine v_get fX11_276 dX11_read_121 h_47 (by decide) rfl ?_
                refine v_cS (av := [.int (iI pw9)]) (st := [.int (iI (k:Nat))]) zyJ9_abs_0f7a4 lX11_240 (p_abs (d := 6) (a := pw9) (by omega)) dX11_read_124 rfl rfl (Nat.le_of_ble_eq_true rfl) (by omega) (Nat.le_of_ble_eq_true rfl) (Nat.le_of_ble_eq_true rfl) (Or.inl (fun _ _ _ q => ZN q)) (fun r9 K1 n9 q9 => ?_)
                obtain ⟨rfl, q9n, q9h⟩ := q9
                have q9n := q9n.symm
                subst q9n
                have q9h := q9h.symm
                subst q9h
                refine w_icmp_ge 144 dX11_read_127 (by decide) (by omega) (by omega) (fun b1 => ?_) (fun b1 => ?_)
                · exact absurd b1 (by omega)
                · skip
                  refine v_aload_n dX11_read_130 rfl ?_
                  refine v_ldc2_w (v := jL 10) kX11_274 dX11_read_131 ?_
                  refine v_iconst (iI 0) dX11_read_134 rfl ?_
                  refine v_cV (av := [.long (jL 10), .int (iI 0)]) (st := []) zyX9_times lX11_64 h_52 rfl (p_ntimes (d := 6) (x := 10) (y := 0) hB (by decide) (by decide) (lt12 (by omega))) dX11_read_135 rfl rfl (Nat.le_of_ble_eq_true rfl) (by omega) (Nat.le_of_ble_eq_true rfl) (Nat.le_of_ble_eq_true rfl) (Or.inl (fun _ _ _ q => ZN q)) (fun r9 G4 n9 q9 => ?_)
                  obtain ⟨rfl, q9n, -, hB, fr7⟩ := q9
                  have q9n := q9n.symm
                  subst q9n
                  have hB := hB (by decide)
                  rw [Nat.add_zero, ← Nat.pow_succ] at hB
                  have hA := hA.fr fr7 (by decide) (by decide)
                  have nB := hB.ns
                  have h_48 := (fr7 48 (by decide)).trans h_48
                  have h_49 := (fr7 49 (by decide)).trans h_49
                  have h_58 := (fr7 58 (by decide)).trans h_58
                  have h_66 := (fr7 66 (by decide)).trans h_66
                  have h_67 := (fr7 67 (by decide)).trans h_67
                  have h_68 := (fr7 68 (by decide)).trans h_68
                  have h_73 := (fr7 73 (by decide)).trans h_73
                  have nA := nA.fr fr7 (by decide) (by decide)
                  have nL := nL.fr fr7 (by decide) (by decide)
                  have nR := nR.fr fr7 (by decide) (by decide)
                  have nP := nP.fr fr7 (by decide) (by decide)
                  have nS := nS.fr fr7 (by decide) (by decide)
                  have nN := nN.fr fr7 (by decide) (by decide)
                  have nD := nD.fr fr7 (by decide) (by decide)
                  have nLo := nLo.fr fr7 (by decide) (by decide)
                  have nUp := nUp.fr fr7 (by decide) (by decide)
                  have hS := hS.fr fr7 (by decide) (by decide) (by decide)
                  have hq := hq.fr fr7 (by decide)
                  have fr := fr.tr fr7 (by decide)
                  have h_47 := (fr7 47 (by decide)).trans h_47
                  refine w_iinc (lv' := [(3, .int (iI ((k:Nat) + 1))), (0, .ref 47), (1, .int (iI (a3:Nat))), (2, .ref 52)]) dX11_read_138 rfl (by decide) rfl ?_
                  refine w_sub (lv2 := [(0, .ref 47), (1, .int (iI (a3:Nat))), (2, .ref 52), (3, .int (iI ((k:Nat) + 1)))]) [1, 2, 3, 0] rfl ?_
                  refine v_goto 119 dX11_read_141 (by decide) ?_
                  rw [e1]
                  exact ih (k + 1) G4 (by omega) ⟨_, _, _, _, _, _, _, _, _, _, _, _, h_47, h_48, h_49, ⟨nA, nB, nL, nR, nP, nS, nN, nD, nLo, nUp⟩, h_58, ⟨_, _, hS⟩, hq, h_66, ⟨_, h_67, hbb, htx⟩, ⟨_, h_68⟩, ⟨_, h_73⟩⟩ h_47 (by rw [if_neg (by omega)]; exact hA) (by rw [if_neg (by omega)]; exact hB) fr
          rw [eOk, c3, cond_true, cond_true] at loop
          have h_47' : H1 47 = oModel vs vm ve sg9 0 1 0 (0:Nat) (L.length:Nat) (sAt tf tc:Nat) (tc:Nat) dg9 pw9 tn fm := h_47
          have hMM : MD H1 wd pt Q qn tf 0 L 0 := ⟨_, _, _, _, _, _, _, _, _, _, _, _, h_47', h_48, h_49, ⟨hA.ns, hB.ns, nL, nR, nP, nS, nN, nD, nLo, nUp⟩, h_58, ⟨_, _, hS⟩, hq, h_66, ⟨_, h_67, hbb, htx⟩, ⟨_, h_68⟩, ⟨_, h_73⟩⟩
          have hA0 : ND H1 50 51 (if 0 ≤ pw9 then D * 10 ^ 0 else D) := by rw [Nat.pow_zero, Nat.mul_one]; split <;> exact hA
          have hB0 : ND H1 52 53 (if 0 ≤ pw9 then 1 else 10 ^ 0) := by rw [Nat.pow_zero]; split <;> exact hB
          refine v_aload_n dX11_read_98 rfl ?_
          refine v_get fX11_276 dX11_read_99 h_47 (by decide) rfl ?_
          refine w_if_ge 112 dX11_read_102 (by decide) (by omega) (fun b1 => ?_) (fun b1 => ?_)
          · skip
            refine v_aload_n dX11_read_112 rfl ?_
            refine v_get fX11_35 dX11_read_113 h_47 (by decide) rfl ?_
            refine v_astore_n (i := 2) (lv' := [(2, .ref 50), (0, .ref 47), (1, .int (iI (a3:Nat)))]) dX11_read_116 rfl (by decide) rfl ?_
            refine v_iconst (iI 0) dX11_read_117 rfl ?_
            refine v_istore_n (i := 3) (lv' := [(3, .int (iI 0)), (2, .ref 50), (0, .ref 47), (1, .int (iI (a3:Nat)))]) dX11_read_118 rfl (by decide) rfl ?_
            refine w_sub (lv2 := [(0, .ref 47), (1, .int (iI (a3:Nat))), (2, .ref 50), (3, .int (iI 0))]) [2, 3, 1, 0] rfl ?_
            exact loop 50 51 (Or.inl ⟨rfl, rfl, b1⟩) pw9.natAbs 0 H1 (by omega) hMM h_47 hA0 hB0 fr
          · skip
            refine v_aload_n dX11_read_105 rfl ?_
            refine v_get fX11_45 dX11_read_106 h_47 (by decide) rfl ?_
            refine v_goto 116 dX11_read_109 (by decide) ?_
            refine v_astore_n (i := 2) (lv' := [(2, .ref 52), (0, .ref 47), (1, .int (iI (a3:Nat)))]) dX11_read_116 rfl (by decide) rfl ?_
            refine v_iconst (iI 0) dX11_read_117 rfl ?_
            refine v_istore_n (i := 3) (lv' := [(3, .int (iI 0)), (2, .ref 52), (0, .ref 47), (1, .int (iI (a3:Nat)))]) dX11_read_118 rfl (by decide) rfl ?_
            refine w_sub (lv2 := [(0, .ref 47), (1, .int (iI (a3:Nat))), (2, .ref 52), (3, .int (iI 0))]) [2, 3, 1, 0] rfl ?_
            exact loop 52 53 (Or.inr ⟨rfl, rfl, by omega⟩) pw9.natAbs 0 H1 (by omega) hMM h_47 hA0 hB0 fr
        rw [eOk, c3, cond_true, cond_true] at j95
        refine v_aload_n dX11_read_76 rfl ?_
        refine v_aload_n dX11_read_77 rfl ?_
        refine v_get fX11_35 dX11_read_78 h_47 (by decide) rfl ?_
        refine v_getN fX11_206 dX11_read_81 h_50 (by decide) rfl ?_
        refine w_if_ne 91 dX11_read_84 (by decide) (by omega) (fun b2 => ?_) (fun b2 => ?_)
        · skip
          refine v_aload_n dX11_read_91 rfl ?_
          refine v_get fX11_32 dX11_read_92 h_47 (by decide) rfl ?_
          refine w_ei sg9 (by rw [esg, if_neg (by omega)]) ?_
          exact j95
        · skip
          refine v_iconst (iI 0) dX11_read_87 rfl ?_
          refine v_goto 95 dX11_read_88 (by decide) ?_
          refine w_ei sg9 (by rw [esg, if_pos (by omega)]) ?_
          exact j95
      · rw [eOk, c3, cond_false, cond_false, eAt]
        have h_47 : G2 47 = oModel vs vm ve (cond (decide (hr tf tc 0 = 45)) (-1) 1) 0 1 0 (0:Nat) (L.length:Nat) (sAt tf tc:Nat) (tc:Nat) dg9 pw9 tn fm := h_47
        refine v_iconst (iI (-1)) dX11_read_69 rfl ?_
        refine v_aload_n dX11_read_70 rfl ?_
        refine v_get fX11_259 dX11_read_71 h_47 (by decide) rfl ?_
        refine w_isub dX11_read_74 ?_
        exact v_iret dX11_read_75 trivial (Nat.le_of_ble_eq_true rfl) (Nat.le_of_ble_eq_true rfl) ⟨rfl, rfl, ⟨_, _, _, _, _, _, _, _, _, _, _, _, h_47, h_48, h_49, ⟨nA, nB, nL, nR, nP, nS, nN, nD, nLo, nUp⟩, h_58, ⟨_, _, hS⟩, hq, h_66, ⟨_, h_67, hbb, htx⟩, ⟨_, h_68⟩, ⟨_, h_73⟩⟩, fr⟩
    · have eN : sN tf tc = true := decide_eq_true c2
      have eOk : rdOk tf tc = nOk tf tc := by unfold rdOk; rw [eN, cond_true]
      have eAt : rdAt tf tc = nAt tf tc := by unfold rdAt; rw [eN, cond_true]
      rw [eOk, eAt]
      refine v_aload_n dX11_read_41 rfl ?_
      refine v_cV (av := []) (st := []) zyX11_isNarTold lX11_285 h_47 rfl (p_isNarTold (d := 6) h_47 h_66 hf hc hk hn c2 (by decide)) dX11_read_42 rfl rfl (Nat.le_of_ble_eq_true rfl) (by omega) (Nat.le_of_ble_eq_true rfl) (Nat.le_of_ble_eq_true rfl) (Or.inl (fun _ _ _ q => ZN q)) (fun r9 G2 n9 q9 => ?_)
      obtain ⟨rfl, q9n, h_47, fr8⟩ := q9
      have q9n := q9n.symm
      subst q9n
      have h_48 := (fr8 48 (by decide)).trans h_48
      have h_49 := (fr8 49 (by decide)).trans h_49
      have h_58 := (fr8 58 (by decide)).trans h_58
      have h_66 := (fr8 66 (by decide)).trans h_66
      have h_67 := (fr8 67 (by decide)).trans h_67
      have h_68 := (fr8 68 (by decide)).trans h_68
      have h_73 := (fr8 73 (by decide)).trans h_73
      have nA := nA.fr fr8 (by decide) (by decide)
      have nB := nB.fr fr8 (by decide) (by decide)
      have nL := nL.fr fr8 (by decide) (by decide)
      have nR := nR.fr fr8 (by decide) (by decide)
      have nP := nP.fr fr8 (by decide) (by decide)
      have nS := nS.fr fr8 (by decide) (by decide)
      have nN := nN.fr fr8 (by decide) (by decide)
      have nD := nD.fr fr8 (by decide) (by decide)
      have nLo := nLo.fr fr8 (by decide) (by decide)
      have nUp := nUp.fr fr8 (by decide) (by decide)
      have hS := hS.fr fr8 (by decide) (by decide) (by decide)
      have hq := hq.fr fr8 (by decide)
      have fr := fr.tr fr8 (by decide)
      have h_47 : G2 47 = oModel vs vm ve sg e rt 0 (0:Nat) (L.length:Nat) (nAt tf tc:Nat) (tc:Nat) dg pw tn fm := h_47
      refine w_ifb_ne 55 dX11_read_45 (by decide) (fun c3 => ?_) (fun c3 => ?_)
      · rw [c3, cond_true, cond_true]
        refine v_aload_n dX11_read_55 rfl ?_
        refine v_iload_n dX11_read_56 rfl ?_
        refine v_cV (av := [.int (iI (a3:Nat))]) (st := []) zyX11_becomeNar lX11_182 h_47 rfl (p_becomeNar (d := 6) h_47 h_48 h_49 h3 ⟨w3.1, w3.2.1⟩) dX11_read_57 rfl rfl (Nat.le_of_ble_eq_true rfl) (by omega) (Nat.le_of_ble_eq_true rfl) (Nat.le_of_ble_eq_true rfl) (Or.inl (fun _ _ _ q => ZN q)) (fun r9 G3 n9 q9 => ?_)
        obtain ⟨rfl, q9n, h_49, fr7⟩ := q9
        have q9n := q9n.symm
        subst q9n
        have h_47 := (fr7 47 (by decide)).trans h_47
        have h_48 := (fr7 48 (by decide)).trans h_48
        have h_58 := (fr7 58 (by decide)).trans h_58
        have h_66 := (fr7 66 (by decide)).trans h_66
        have h_67 := (fr7 67 (by decide)).trans h_67
        have h_68 := (fr7 68 (by decide)).trans h_68
        have h_73 := (fr7 73 (by decide)).trans h_73
        have nA := nA.fr fr7 (by decide) (by decide)
        have nB := nB.fr fr7 (by decide) (by decide)
        have nL := nL.fr fr7 (by decide) (by decide)
        have nR := nR.fr fr7 (by decide) (by decide)
        have nP := nP.fr fr7 (by decide) (by decide)
        have nS := nS.fr fr7 (by decide) (by decide)
        have nN := nN.fr fr7 (by decide) (by decide)
        have nD := nD.fr fr7 (by decide) (by decide)
        have nLo := nLo.fr fr7 (by decide) (by decide)
        have nUp := nUp.fr fr7 (by decide) (by decide)
        have hS := hS.fr fr7 (by decide) (by decide) (by decide)
        have hq := hq.fr fr7 (by decide)
        have fr := fr.tr fr7 (by decide)
        rw [show 2 ^ (wd a3 - 1) = mrd tf tc (wd a3) from by unfold mrd; rw [eN, cond_true]] at h_49
        refine v_iconst (iI 0) dX11_read_60 rfl ?_
        exact v_iret dX11_read_61 trivial (Nat.le_of_ble_eq_true rfl) (Nat.le_of_ble_eq_true rfl) ⟨rfl, rfl, ⟨_, _, _, _, _, _, _, _, _, _, _, _, h_47, h_48, h_49, ⟨nA, nB, nL, nR, nP, nS, nN, nD, nLo, nUp⟩, h_58, ⟨_, _, hS⟩, hq, h_66, ⟨_, h_67, hbb, htx⟩, ⟨_, h_68⟩, ⟨_, h_73⟩⟩, fr⟩
      · rw [c3, cond_false, cond_false]
        refine v_iconst (iI (-1)) dX11_read_48 rfl ?_
        refine v_aload_n dX11_read_49 rfl ?_
        refine v_get fX11_259 dX11_read_50 h_47 (by decide) rfl ?_
        refine w_isub dX11_read_53 ?_
        exact v_iret dX11_read_54 trivial (Nat.le_of_ble_eq_true rfl) (Nat.le_of_ble_eq_true rfl) ⟨rfl, rfl, ⟨_, _, _, _, _, _, _, _, _, _, _, _, h_47, h_48, h_49, ⟨nA, nB, nL, nR, nP, nS, nN, nD, nLo, nUp⟩, h_58, ⟨_, _, hS⟩, hq, h_66, ⟨_, h_67, hbb, htx⟩, ⟨_, h_68⟩, ⟨_, h_73⟩⟩, fr⟩
  · exact absurd c1 (by decide)
set_option maxHeartbeats 8000000 in
set_option maxRecDepth 100000 in
theorem p_Mreadx {d n tc : Nat} {wd pt tf : Nat → Nat} {Q : Nat → Int} {qn : Nat → Bool} {L : List Nat} {th r : Int} {h : zH} (hM : MD h wd pt Q qn tf tc L th) (hr_r : -2147483648 ≤ r ∧ r < 2147483648) (hx : isP r = false) (hd : 2 ≤ d) :
    zM yX11_read cX11_read 4 (some .int) d 1 3 [.ref 47, .int (iI r)] h n (fun r9 h' n' => r9 = some (.int (iI 0)) ∧ n' = n ∧ MD h' wd pt Q qn tf tc L 1 ∧ zFr MOL h h') := by
  obtain ⟨vs, vm, ve, sg, e, rt, at9, sz, dg, pw, tn, fm, h_47, h_48, h_49, ⟨nA, nB, nL, nR, nP, nS, nN, nD, nLo, nUp⟩, h_58, ⟨Q0, n0, hS⟩, hq, h_66, ⟨tx, h_67, hbb, htx⟩, ⟨fg, h_68⟩, ⟨fw, h_73⟩⟩ := id hM
  refine zM_of zyX11_read rfl (Nat.le_of_ble_eq_true rfl) (fun X hX => ?_)
  have fr : zFr MOL h h := zFr.rf
  refine v_aload_n dX11_read_0 rfl ?_
  refine v_iload_n dX11_read_1 rfl ?_
  refine v_cS (av := [.int (iI r)]) (st := [.ref 47]) zyX11_isPlace lX11_165 (p_isPlace (d := 1) hr_r) dX11_read_2 rfl rfl (Nat.le_of_ble_eq_true rfl) (by omega) (Nat.le_of_ble_eq_true rfl) (Nat.le_of_ble_eq_true rfl) (Or.inl (fun _ _ _ q => ZN q)) (fun r9 K1 n9 q9 => ?_)
  obtain ⟨rfl, q9n, q9h⟩ := q9
  have q9n := q9n.symm
  subst q9n
  have q9h := q9h.symm
  subst q9h
  refine w_ei (bz (isP r)) rfl ?_
  refine v_iconst (iI 1) dX11_read_5 rfl ?_
  refine w_ei (bz true) rfl ?_
  refine v_cV (av := [.int (iI (bz (isP r))), .int (iI (bz true))]) (st := []) zyX11_goes lX11_172 h_47 rfl (p_goes (d := 1) h_47) dX11_read_6 rfl rfl (Nat.le_of_ble_eq_true rfl) (by omega) (Nat.le_of_ble_eq_true rfl) (Nat.le_of_ble_eq_true rfl) (Or.inl (fun _ _ _ q => ZN q)) (fun r9 G1 n9 q9 => ?_)
  obtain ⟨rfl, q9n, h_47, fr9⟩ := q9
  have q9n := q9n.symm
  subst q9n
  rw [hx] at h_47
  have h_48 := (fr9 48 (by decide)).trans h_48
  have h_49 := (fr9 49 (by decide)).trans h_49
  have h_58 := (fr9 58 (by decide)).trans h_58
  have h_66 := (fr9 66 (by decide)).trans h_66
  have h_67 := (fr9 67 (by decide)).trans h_67
  have h_68 := (fr9 68 (by decide)).trans h_68
  have h_73 := (fr9 73 (by decide)).trans h_73
  have nA := nA.fr fr9 (by decide) (by decide)
  have nB := nB.fr fr9 (by decide) (by decide)
  have nL := nL.fr fr9 (by decide) (by decide)
  have nR := nR.fr fr9 (by decide) (by decide)
  have nP := nP.fr fr9 (by decide) (by decide)
  have nS := nS.fr fr9 (by decide) (by decide)
  have nN := nN.fr fr9 (by decide) (by decide)
  have nD := nD.fr fr9 (by decide) (by decide)
  have nLo := nLo.fr fr9 (by decide) (by decide)
  have nUp := nUp.fr fr9 (by decide) (by decide)
  have hS := hS.fr fr9 (by decide) (by decide) (by decide)
  have hq := hq.fr fr9 (by decide)
  have fr := fr.tr fr9 (by decide)
  refine w_ifb_ne 14 dX11_read_9 (by decide) (fun c1 => ?_) (fun c1 => ?_)
  · rw [hx] at c1; exact absurd c1 (by decide)
  · skip
    refine v_iconst (iI 0) dX11_read_12 rfl ?_
    exact v_iret dX11_read_13 trivial (Nat.le_of_ble_eq_true rfl) (Nat.le_of_ble_eq_true rfl) ⟨rfl, rfl, ⟨_, _, _, _, _, _, _, _, _, _, _, _, h_47, h_48, h_49, ⟨nA, nB, nL, nR, nP, nS, nN, nD, nLo, nUp⟩, h_58, ⟨_, _, hS⟩, hq, h_66, ⟨_, h_67, hbb, htx⟩, ⟨_, h_68⟩, ⟨_, h_73⟩⟩, fr⟩
/-- a letter of the text -/
def mlt (L : List Nat) (i : Int) : Int := if 0 ≤ i then (match L[i.toNat]? with | some x => (x : Int) | none => -1) else -1
set_option maxHeartbeats 8000000 in
set_option maxRecDepth 100000 in
theorem p_Mletter {d n tc : Nat} {wd pt tf : Nat → Nat} {Q : Nat → Int} {qn : Nat → Bool} {L : List Nat} {th i : Int} {h : zH} (hM : MD h wd pt Q qn tf tc L th) (hr_i : -2147483648 ≤ i ∧ i < 2147483648) (hL : L.length ≤ 400) :
    zM yX11_letter cX11_letter 2 (some .int) d 0 0 [.ref 47, .int (iI i)] h n (fun r9 h' n' => r9 = some (.int (iI (mlt L i))) ∧ n' = n ∧ MD h' wd pt Q qn tf tc L 0 ∧ zFr MOL h h') := by
  obtain ⟨vs, vm, ve, sg, e, rt, at9, sz, dg, pw, tn, fm, h_47, h_48, h_49, ⟨nA, nB, nL, nR, nP, nS, nN, nD, nLo, nUp⟩, h_58, ⟨Q0, n0, hS⟩, hq, h_66, ⟨tx, h_67, hbb, htx⟩, ⟨fg, h_68⟩, ⟨fw, h_73⟩⟩ := id hM
  refine zM_of zyX11_letter rfl (Nat.le_of_ble_eq_true rfl) (fun X hX => ?_)
  have fr : zFr MOL h h := zFr.rf
  refine v_aload_n dX11_letter_0 rfl ?_
  refine v_iconst (iI 0) dX11_letter_1 rfl ?_
  refine v_put (fs' := [.int (iI vs), .long (jL vm), .int (iI ve), .ref 48, .ref 49, .int (iI sg), .ref 50, .ref 52, .int (iI e), .int (iI rt), .ref 54, .ref 56, .ref 58, .ref 59, .ref 62, .ref 64, .int (iI 0), .ref 66, .int (iI (tc:Nat)), .ref 67, .int (iI (L.length:Nat)), .int (iI at9), .int (iI sz), .int (iI dg), .int (iI pw), .ref 68, .ref 69, .ref 71, .int (iI tn), .ref 73, .int (iI fm), .ref 74, .ref 76]) fX11_162 dX11_letter_2 h_47 (by decide) (Nat.le_of_ble_eq_true rfl) rfl rfl rfl (fun H1 eH1 => ?_)
  have h_47 : H1 47 = oModel vs vm ve sg e rt 0 (tc:Nat) (L.length:Nat) at9 sz dg pw tn fm := zf_same eH1
  have h_48 := (zf_ne eH1 (by decide)).trans h_48
  have h_49 := (zf_ne eH1 (by decide)).trans h_49
  have h_67 := (zf_ne eH1 (by decide)).trans h_67
  have fr := fr.put eH1 (by simp)
  refine v_iload_n dX11_letter_5 rfl ?_
  have fz : zFr [47] h H1 := zFr.put zFr.rf eH1 (by simp)
  have h_58 := (fz 58 (by decide)).trans h_58
  have h_66 := (fz 66 (by decide)).trans h_66
  have h_68 := (fz 68 (by decide)).trans h_68
  have h_73 := (fz 73 (by decide)).trans h_73
  have nA := nA.fr fz (by decide) (by decide)
  have nB := nB.fr fz (by decide) (by decide)
  have nL := nL.fr fz (by decide) (by decide)
  have nR := nR.fr fz (by decide) (by decide)
  have nP := nP.fr fz (by decide) (by decide)
  have nS := nS.fr fz (by decide) (by decide)
  have nN := nN.fr fz (by decide) (by decide)
  have nD := nD.fr fz (by decide) (by decide)
  have nLo := nLo.fr fz (by decide) (by decide)
  have nUp := nUp.fr fz (by decide) (by decide)
  have hS := hS.fr fz (by decide) (by decide) (by decide)
  have hq := hq.fr fz (by decide)
  refine w_if_lt 26 dX11_letter_6 (by decide) (by omega) (fun c1 => ?_) (fun c1 => ?_)
  · skip
    refine v_iconst (iI (-1)) dX11_letter_26 rfl ?_
    exact v_iret dX11_letter_27 trivial (Nat.le_of_ble_eq_true rfl) (Nat.le_of_ble_eq_true rfl) ⟨by unfold mlt; rw [if_neg (by omega)], rfl, ⟨_, _, _, _, _, _, _, _, _, _, _, _, h_47, h_48, h_49, ⟨nA, nB, nL, nR, nP, nS, nN, nD, nLo, nUp⟩, h_58, ⟨_, _, hS⟩, hq, h_66, ⟨_, h_67, hbb, htx⟩, ⟨_, h_68⟩, ⟨_, h_73⟩⟩, fr⟩
  · skip
    refine v_iload_n dX11_letter_9 rfl ?_
    refine v_aload_n dX11_letter_10 rfl ?_
    refine v_get fX11_291 dX11_letter_11 h_47 (by decide) rfl ?_
    refine w_icmp_ge 26 dX11_letter_14 (by decide) (by omega) (by omega) (fun c2 => ?_) (fun c2 => ?_)
    · skip
      refine v_iconst (iI (-1)) dX11_letter_26 rfl ?_
      exact v_iret dX11_letter_27 trivial (Nat.le_of_ble_eq_true rfl) (Nat.le_of_ble_eq_true rfl) ⟨by unfold mlt; rw [if_pos (by omega), List.getElem?_eq_none (by omega)], rfl, ⟨_, _, _, _, _, _, _, _, _, _, _, _, h_47, h_48, h_49, ⟨nA, nB, nL, nR, nP, nS, nN, nD, nLo, nUp⟩, h_58, ⟨_, _, hS⟩, hq, h_66, ⟨_, h_67, hbb, htx⟩, ⟨_, h_68⟩, ⟨_, h_73⟩⟩, fr⟩
    · have e9 := htx i.toNat (by omega)
      refine v_aload_n dX11_letter_17 rfl ?_
      refine v_get fX11_141 dX11_letter_18 h_47 (by decide) rfl ?_
      refine v_iload_n dX11_letter_21 rfl ?_
      refine w_nald dX11_letter_22 h_67 i.toNat (by omega) (by omega) (by decide) ?_
      refine v_goto 27 dX11_letter_23 (by decide) ?_
      exact v_iret dX11_letter_27 trivial (Nat.le_of_ble_eq_true rfl) (Nat.le_of_ble_eq_true rfl) ⟨by unfold mlt; rw [if_pos (by omega), e9], rfl, ⟨_, _, _, _, _, _, _, _, _, _, _, _, h_47, h_48, h_49, ⟨nA, nB, nL, nR, nP, nS, nN, nD, nLo, nUp⟩, h_58, ⟨_, _, hS⟩, hq, h_66, ⟨_, h_67, hbb, htx⟩, ⟨_, h_68⟩, ⟨_, h_73⟩⟩, fr⟩
/-- bytes come onto the tape -/
def fdF (tf : Nat → Nat) (tc : Nat) (x : Int) : Nat → (Nat → Nat)
  | 0 => tf
  | k + 1 => zup (fdF tf tc x k) (tc + k) (x / 2 ^ (8 * k) % 256).toNat
theorem fdF_b {tf : Nat → Nat} {tc : Nat} {x : Int} (h : bb tf) : ∀ k, bb (fdF tf tc x k)
  | 0 => h
  | k + 1 => fun j => by
    unfold fdF zup
    split
    · have := Int.emod_lt_of_pos (x / 2 ^ (8 * k)) (show (0 : Int) < 256 by decide)
      have := Int.emod_nonneg (x / 2 ^ (8 * k)) (show (256 : Int) ≠ 0 by decide)
      omega
    · exact fdF_b h k j
def fdOk (tc : Nat) (m : Int) : Bool := decide (1 ≤ m ∧ m ≤ 8 ∧ (tc : Int) + m ≤ 80)
set_option maxHeartbeats 8000000 in
set_option maxRecDepth 100000 in
theorem p_Mfeed {d n tc m : Nat} {wd pt tf : Nat → Nat} {Q : Nat → Int} {qn : Nat → Bool} {L : List Nat} {th x : Int} {h : zH} (hM : MD h wd pt Q qn tf tc L th) (hx : -9223372036854775808 ≤ x ∧ x < 9223372036854775808) (hm : 1 ≤ m ∧ m ≤ 8 ∧ tc + m ≤ 80) :
    zM yX11_feed cX11_feed 5 (some .int) d 0 0 [.ref 47, .long (jL x), .int (iI (m:Nat))] h n (fun r9 h' n' => r9 = some (.int (iI (tc + m : Nat))) ∧ n' = n ∧ MD h' wd pt Q qn (fdF tf tc x m) (tc + m) L 0 ∧ zFr MOL h h') := by
  obtain ⟨vs, vm, ve, sg, e, rt, at9, sz, dg, pw, tn, fm, h_47, h_48, h_49, ⟨nA, nB, nL, nR, nP, nS, nN, nD, nLo, nUp⟩, h_58, ⟨Q0, n0, hS⟩, hq, h_66, ⟨tx, h_67, hbb, htx⟩, ⟨fg, h_68⟩, ⟨fw, h_73⟩⟩ := id hM
  refine zM_of zyX11_feed rfl (Nat.le_of_ble_eq_true rfl) (fun X hX => ?_)
  have fr : zFr MOL h h := zFr.rf
  have loop : ∀ (j k : Nat) (H : zH), k + j = m → MD H wd pt Q qn (fdF tf tc x k) (tc + k) L 0 → zFr MOL h H → (zV X (fun r9 h' n' => r9 = some (.int (iI (tc + m : Nat))) ∧ n' = n ∧ MD h' wd pt Q qn (fdF tf tc x m) (tc + m) L 0 ∧ zFr MOL h h') cX11_feed 5 RX11 (some .int) d 0 0 34 [(0, .ref 47), (1, .long (jL x)), (3, .int (iI (m:Nat))), (4, .int (iI (k:Nat)))] [] H n 0 0) := by
    intro j
    induction j with
    | zero =>
      intro k H hj hM fr
      have hk : k = m := by omega
      subst hk
      obtain ⟨vs, vm, ve, sg, e, rt, at9, sz, dg, pw, tn, fm, h_47, h_48, h_49, ⟨nA, nB, nL, nR, nP, nS, nN, nD, nLo, nUp⟩, h_58, ⟨Q0, n0, hS⟩, hq, h_66, ⟨tx, h_67, hbb, htx⟩, ⟨fg, h_68⟩, ⟨fw, h_73⟩⟩ := id hM
      refine v_iload dX11_feed_34 rfl ?_
      refine v_iload_n dX11_feed_36 rfl ?_
      refine w_icmp_ge 84 dX11_feed_37 (by decide) (by omega) (by omega) (fun c1 => ?_) (fun c1 => ?_)
      · skip
        refine v_aload_n dX11_feed_84 rfl ?_
        refine v_get fX11_162 dX11_feed_85 h_47 (by decide) rfl ?_
        refine w_if_ne 98 dX11_feed_88 (by decide) (by decide) (fun c2 => ?_) (fun c2 => ?_)
        · exact absurd c2 (by decide)
        · skip
          refine v_aload_n dX11_feed_91 rfl ?_
          refine v_get fX11_254 dX11_feed_92 h_47 (by decide) rfl ?_
          refine v_goto 99 dX11_feed_95 (by decide) ?_
          exact v_iret dX11_feed_99 trivial (Nat.le_of_ble_eq_true rfl) (Nat.le_of_ble_eq_true rfl) ⟨rfl, rfl, ⟨_, _, _, _, _, _, _, _, _, _, _, _, h_47, h_48, h_49, ⟨nA, nB, nL, nR, nP, nS, nN, nD, nLo, nUp⟩, h_58, ⟨_, _, hS⟩, hq, h_66, ⟨_, h_67, hbb, htx⟩, ⟨_, h_68⟩, ⟨_, h_73⟩⟩, fr⟩
      · exact absurd c1 (by omega)
    | succ j ih =>
      intro k H hj hM fr
      obtain ⟨vs, vm, ve, sg, e, rt, at9, sz, dg, pw, tn, fm, h_47, h_48, h_49, ⟨nA, nB, nL, nR, nP, nS, nN, nD, nLo, nUp⟩, h_58, ⟨Q0, n0, hS⟩, hq, h_66, ⟨tx, h_67, hbb, htx⟩, ⟨fg, h_68⟩, ⟨fw, h_73⟩⟩ := id hM
      refine v_iload dX11_feed_34 rfl ?_
      refine v_iload_n dX11_feed_36 rfl ?_
      refine w_icmp_ge 84 dX11_feed_37 (by decide) (by omega) (by omega) (fun c1 => ?_) (fun c1 => ?_)
      · exact absurd c1 (by omega)
      · skip
        refine v_aload_n dX11_feed_40 rfl ?_
        refine v_get fX11_162 dX11_feed_41 h_47 (by decide) rfl ?_
        refine w_if_ne 84 dX11_feed_44 (by decide) (by decide) (fun c2 => ?_) (fun c2 => ?_)
        · exact absurd c2 (by decide)
        · have q1 := Int.emod_lt_of_pos (x / 2 ^ (8 * k)) (show (0 : Int) < 256 by decide)
          have q2 := Int.emod_nonneg (x / 2 ^ (8 * k)) (show (256 : Int) ≠ 0 by decide)
          refine v_aload_n dX11_feed_47 rfl ?_
          refine v_get fX11_138 dX11_feed_48 h_47 (by decide) rfl ?_
          refine v_aload_n dX11_feed_51 rfl ?_
          refine v_get fX11_254 dX11_feed_52 h_47 (by decide) rfl ?_
          refine v_lload_n dX11_feed_55 rfl ?_
          refine v_bipush (iI 8) dX11_feed_56 rfl ?_
          refine v_iload dX11_feed_58 rfl ?_
          refine w_imul dX11_feed_60 ?_
          refine w_lshr dX11_feed_61 (8 * k) (2 ^ (8 * k)) rfl (by omega) (by omega) (by omega) ?_
          refine v_ldc2_w (v := jL 255) kX11_257 dX11_feed_62 ?_
          refine w_landm dX11_feed_65 8 256 rfl (by decide) rfl ?_
          refine w_l2i dX11_feed_66 ?_
          refine w_nast dX11_feed_67 h_66 (tc + k) (by omega) (by omega) (by decide) ((x / 2 ^ (8 * k) % 256).toNat) (by omega) (fun H1 eH1 => ?_)
          obtain ⟨F1, eF1⟩ : ∃ zz9, zz9 = zup (fdF tf tc x k) (tc + k) ((x / 2 ^ (8 * k) % 256).toNat) := ⟨_, rfl⟩
          rw [← eF1] at eH1
          have h_66 : H1 66 = aN 80 F1 := zf_same eH1
          have h_47 := (zf_ne eH1 (by decide)).trans h_47
          have h_48 := (zf_ne eH1 (by decide)).trans h_48
          have h_49 := (zf_ne eH1 (by decide)).trans h_49
          have fr := fr.put eH1 (by simp)
          refine v_aload_n dX11_feed_68 rfl ?_
          refine v_dup dX11_feed_69 rfl ?_
          refine v_get fX11_254 dX11_feed_70 h_47 (by decide) rfl ?_
          refine v_iconst (iI 1) dX11_feed_73 rfl ?_
          refine w_iadd dX11_feed_74 ?_
          refine w_ei (tc + k + 1:Nat) (by omega) ?_
          refine v_put (fs' := [.int (iI vs), .long (jL vm), .int (iI ve), .ref 48, .ref 49, .int (iI sg), .ref 50, .ref 52, .int (iI e), .int (iI rt), .ref 54, .ref 56, .ref 58, .ref 59, .ref 62, .ref 64, .int (iI 0), .ref 66, .int (iI (tc + k + 1:Nat)), .ref 67, .int (iI (L.length:Nat)), .int (iI at9), .int (iI sz), .int (iI dg), .int (iI pw), .ref 68, .ref 69, .ref 71, .int (iI tn), .ref 73, .int (iI fm), .ref 74, .ref 76]) fX11_254 dX11_feed_75 h_47 (by decide) (Nat.le_of_ble_eq_true rfl) rfl rfl rfl (fun H2 eH2 => ?_)
          have h_47 : H2 47 = oModel vs vm ve sg e rt 0 (tc + k + 1:Nat) (L.length:Nat) at9 sz dg pw tn fm := zf_same eH2
          have h_48 := (zf_ne eH2 (by decide)).trans h_48
          have h_49 := (zf_ne eH2 (by decide)).trans h_49
          have h_66 := (zf_ne eH2 (by decide)).trans h_66
          have fr := fr.put eH2 (by simp)
          refine w_iinc (lv' := [(4, .int (iI ((k:Nat) + 1))), (0, .ref 47), (1, .long (jL x)), (3, .int (iI (m:Nat)))]) dX11_feed_78 rfl (by decide) rfl ?_
          have fz : zFr [47, 66] H H2 := (zFr.put zFr.rf eH1 (by simp)).put eH2 (by simp)
          have h_58 := (fz 58 (by decide)).trans h_58
          have h_67 := (fz 67 (by decide)).trans h_67
          have h_68 := (fz 68 (by decide)).trans h_68
          have h_73 := (fz 73 (by decide)).trans h_73
          have nA := nA.fr fz (by decide) (by decide)
          have nB := nB.fr fz (by decide) (by decide)
          have nL := nL.fr fz (by decide) (by decide)
          have nR := nR.fr fz (by decide) (by decide)
          have nP := nP.fr fz (by decide) (by decide)
          have nS := nS.fr fz (by decide) (by decide)
          have nN := nN.fr fz (by decide) (by decide)
          have nD := nD.fr fz (by decide) (by decide)
          have nLo := nLo.fr fz (by decide) (by decide)
          have nUp := nUp.fr fz (by decide) (by decide)
          have hS := hS.fr fz (by decide) (by decide) (by decide)
          have hq := hq.fr fz (by decide)
          rw [eF1] at h_66
          refine w_sub (lv2 := [(0, .ref 47), (1, .long (jL x)), (3, .int (iI (m:Nat))), (4, .int (iI ((k:Nat) + 1)))]) [1, 2, 3, 0] rfl ?_
          refine v_goto 34 dX11_feed_81 (by decide) ?_
          have e1 : (k : Int) + 1 = ((k + 1 : Nat) : Int) := by omega
          rw [e1]
          exact ih (k + 1) _ (by omega) ⟨_, _, _, _, _, _, _, _, _, _, _, _, h_47, h_48, h_49, ⟨nA, nB, nL, nR, nP, nS, nN, nD, nLo, nUp⟩, h_58, ⟨_, _, hS⟩, hq, h_66, ⟨_, h_67, hbb, htx⟩, ⟨_, h_68⟩, ⟨_, h_73⟩⟩ fr
  refine v_aload_n dX11_feed_0 rfl ?_
  refine v_iload_n dX11_feed_1 rfl ?_
  refine v_iconst (iI 1) dX11_feed_2 rfl ?_
  refine w_icmp_lt 23 dX11_feed_3 (by decide) (by omega) (by decide) (fun c1 => ?_) (fun c1 => ?_)
  · exact absurd c1 (by omega)
  · skip
    refine v_iload_n dX11_feed_6 rfl ?_
    refine v_bipush (iI 8) dX11_feed_7 rfl ?_
    refine w_icmp_gt 23 dX11_feed_9 (by decide) (by omega) (by decide) (fun c2 => ?_) (fun c2 => ?_)
    · exact absurd c2 (by omega)
    · skip
      refine v_aload_n dX11_feed_12 rfl ?_
      refine v_get fX11_254 dX11_feed_13 h_47 (by decide) rfl ?_
      refine v_iload_n dX11_feed_16 rfl ?_
      refine w_iadd dX11_feed_17 ?_
      refine v_bipush (iI 80) dX11_feed_18 rfl ?_
      refine w_icmp_le 27 dX11_feed_20 (by decide) (by omega) (by decide) (fun c3 => ?_) (fun c3 => ?_)
      · skip
        refine v_iconst (iI 0) dX11_feed_27 rfl ?_
        refine v_put (fs' := [.int (iI vs), .long (jL vm), .int (iI ve), .ref 48, .ref 49, .int (iI sg), .ref 50, .ref 52, .int (iI e), .int (iI rt), .ref 54, .ref 56, .ref 58, .ref 59, .ref 62, .ref 64, .int (iI 0), .ref 66, .int (iI (tc:Nat)), .ref 67, .int (iI (L.length:Nat)), .int (iI at9), .int (iI sz), .int (iI dg), .int (iI pw), .ref 68, .ref 69, .ref 71, .int (iI tn), .ref 73, .int (iI fm), .ref 74, .ref 76]) fX11_162 dX11_feed_28 h_47 (by decide) (Nat.le_of_ble_eq_true rfl) rfl rfl rfl (fun H1 eH1 => ?_)
        have h_47 : H1 47 = oModel vs vm ve sg e rt 0 (tc:Nat) (L.length:Nat) at9 sz dg pw tn fm := zf_same eH1
        have h_48 := (zf_ne eH1 (by decide)).trans h_48
        have h_49 := (zf_ne eH1 (by decide)).trans h_49
        have h_66 := (zf_ne eH1 (by decide)).trans h_66
        have fr := fr.put eH1 (by simp)
        refine v_iconst (iI 0) dX11_feed_31 rfl ?_
        refine v_istore (i := 4) (lv' := [(4, .int (iI 0)), (0, .ref 47), (1, .long (jL x)), (3, .int (iI (m:Nat)))]) dX11_feed_32 (by decide) rfl ?_
        have fz : zFr [47] h H1 := zFr.put zFr.rf eH1 (by simp)
        have h_58 := (fz 58 (by decide)).trans h_58
        have h_67 := (fz 67 (by decide)).trans h_67
        have h_68 := (fz 68 (by decide)).trans h_68
        have h_73 := (fz 73 (by decide)).trans h_73
        have nA := nA.fr fz (by decide) (by decide)
        have nB := nB.fr fz (by decide) (by decide)
        have nL := nL.fr fz (by decide) (by decide)
        have nR := nR.fr fz (by decide) (by decide)
        have nP := nP.fr fz (by decide) (by decide)
        have nS := nS.fr fz (by decide) (by decide)
        have nN := nN.fr fz (by decide) (by decide)
        have nD := nD.fr fz (by decide) (by decide)
        have nLo := nLo.fr fz (by decide) (by decide)
        have nUp := nUp.fr fz (by decide) (by decide)
        have hS := hS.fr fz (by decide) (by decide) (by decide)
        have hq := hq.fr fz (by decide)
        refine w_sub (lv2 := [(0, .ref 47), (1, .long (jL x)), (3, .int (iI (m:Nat))), (4, .int (iI 0))]) [1, 2, 3, 0] rfl ?_
        exact loop m 0 _ (by omega) ⟨_, _, _, _, _, _, _, _, _, _, _, _, h_47, h_48, h_49, ⟨nA, nB, nL, nR, nP, nS, nN, nD, nLo, nUp⟩, h_58, ⟨_, _, hS⟩, hq, h_66, ⟨_, h_67, hbb, htx⟩, ⟨_, h_68⟩, ⟨_, h_73⟩⟩ fr
      · exact absurd c3 (by omega)
set_option maxHeartbeats 8000000 in
set_option maxRecDepth 100000 in
theorem p_Mfeedx {d n tc : Nat} {wd pt tf : Nat → Nat} {Q : Nat → Int} {qn : Nat → Bool} {L : List Nat} {th x m : Int} {h : zH} (hM : MD h wd pt Q qn tf tc L th) (hr_m : -2147483648 ≤ m ∧ m < 2147483648) (hx : fdOk tc m = false) (htc : tc ≤ 80) :
    zM yX11_feed cX11_feed 5 (some .int) d 0 0 [.ref 47, .long (jL x), .int (iI m)] h n (fun r9 h' n' => r9 = some (.int (iI 0)) ∧ n' = n ∧ MD h' wd pt Q qn tf tc L 1 ∧ zFr MOL h h') := by
  obtain ⟨vs, vm, ve, sg, e, rt, at9, sz, dg, pw, tn, fm, h_47, h_48, h_49, ⟨nA, nB, nL, nR, nP, nS, nN, nD, nLo, nUp⟩, h_58, ⟨Q0, n0, hS⟩, hq, h_66, ⟨tx, h_67, hbb, htx⟩, ⟨fg, h_68⟩, ⟨fw, h_73⟩⟩ := id hM
  have hx : ¬ (1 ≤ m ∧ m ≤ 8 ∧ (tc : Int) + m ≤ 80) := of_decide_eq_false hx
  refine zM_of zyX11_feed rfl (Nat.le_of_ble_eq_true rfl) (fun X hX => ?_)
  have fr : zFr MOL h h := zFr.rf
  have j23 : (zV X (fun r9 h' n' => r9 = some (.int (iI 0)) ∧ n' = n ∧ MD h' wd pt Q qn tf tc L 1 ∧ zFr MOL h h') cX11_feed 5 RX11 (some .int) d 0 0 23 [(0, .ref 47), (1, .long (jL x)), (3, .int (iI m))] [.ref 47] h n 0 0) := by
    refine v_iconst (iI 1) dX11_feed_23 rfl ?_
    refine v_goto 28 dX11_feed_24 (by decide) ?_
    refine v_put (fs' := [.int (iI vs), .long (jL vm), .int (iI ve), .ref 48, .ref 49, .int (iI sg), .ref 50, .ref 52, .int (iI e), .int (iI rt), .ref 54, .ref 56, .ref 58, .ref 59, .ref 62, .ref 64, .int (iI 1), .ref 66, .int (iI (tc:Nat)), .ref 67, .int (iI (L.length:Nat)), .int (iI at9), .int (iI sz), .int (iI dg), .int (iI pw), .ref 68, .ref 69, .ref 71, .int (iI tn), .ref 73, .int (iI fm), .ref 74, .ref 76]) fX11_162 dX11_feed_28 h_47 (by decide) (Nat.le_of_ble_eq_true rfl) rfl rfl rfl (fun H1 eH1 => ?_)
    have h_47 : H1 47 = oModel vs vm ve sg e rt 1 (tc:Nat) (L.length:Nat) at9 sz dg pw tn fm := zf_same eH1
    have h_48 := (zf_ne eH1 (by decide)).trans h_48
    have h_49 := (zf_ne eH1 (by decide)).trans h_49
    have h_66 := (zf_ne eH1 (by decide)).trans h_66
    have fr := fr.put eH1 (by simp)
    refine v_iconst (iI 0) dX11_feed_31 rfl ?_
    refine v_istore (i := 4) (lv' := [(4, .int (iI 0)), (0, .ref 47), (1, .long (jL x)), (3, .int (iI m))]) dX11_feed_32 (by decide) rfl ?_
    refine v_iload dX11_feed_34 rfl ?_
    refine v_iload_n dX11_feed_36 rfl ?_
    have fz : zFr [47] h H1 := zFr.put zFr.rf eH1 (by simp)
    have h_58 := (fz 58 (by decide)).trans h_58
    have h_67 := (fz 67 (by decide)).trans h_67
    have h_68 := (fz 68 (by decide)).trans h_68
    have h_73 := (fz 73 (by decide)).trans h_73
    have nA := nA.fr fz (by decide) (by decide)
    have nB := nB.fr fz (by decide) (by decide)
    have nL := nL.fr fz (by decide) (by decide)
    have nR := nR.fr fz (by decide) (by decide)
    have nP := nP.fr fz (by decide) (by decide)
    have nS := nS.fr fz (by decide) (by decide)
    have nN := nN.fr fz (by decide) (by decide)
    have nD := nD.fr fz (by decide) (by decide)
    have nLo := nLo.fr fz (by decide) (by decide)
    have nUp := nUp.fr fz (by decide) (by decide)
    have hS := hS.fr fz (by decide) (by decide) (by decide)
    have hq := hq.fr fz (by decide)
    have fin : (zV X (fun r9 h' n' => r9 = some (.int (iI 0)) ∧ n' = n ∧ MD h' wd pt Q qn tf tc L 1 ∧ zFr MOL h h') cX11_feed 5 RX11 (some .int) d 0 0 84 [(0, .ref 47), (1, .long (jL x)), (3, .int (iI m)), (4, .int (iI 0))] [] H1 n 0 0) := by
      refine v_aload_n dX11_feed_84 rfl ?_
      refine v_get fX11_162 dX11_feed_85 h_47 (by decide) rfl ?_
      refine w_if_ne 98 dX11_feed_88 (by decide) (by decide) (fun d1 => ?_) (fun d1 => ?_)
      · skip
        refine v_iconst (iI 0) dX11_feed_98 rfl ?_
        exact v_iret dX11_feed_99 trivial (Nat.le_of_ble_eq_true rfl) (Nat.le_of_ble_eq_true rfl) ⟨rfl, rfl, ⟨_, _, _, _, _, _, _, _, _, _, _, _, h_47, h_48, h_49, ⟨nA, nB, nL, nR, nP, nS, nN, nD, nLo, nUp⟩, h_58, ⟨_, _, hS⟩, hq, h_66, ⟨_, h_67, hbb, htx⟩, ⟨_, h_68⟩, ⟨_, h_73⟩⟩, fr⟩
      · exact absurd d1 (by decide)
    refine w_icmp_ge 84 dX11_feed_37 (by decide) (by decide) (by omega) (fun d2 => ?_) (fun d2 => ?_)
    · skip
      refine w_sub (lv2 := [(0, .ref 47), (1, .long (jL x)), (3, .int (iI m)), (4, .int (iI 0))]) [1, 2, 3, 0] rfl ?_
      exact fin
    · skip
      refine v_aload_n dX11_feed_40 rfl ?_
      refine v_get fX11_162 dX11_feed_41 h_47 (by decide) rfl ?_
      refine w_if_ne 84 dX11_feed_44 (by decide) (by decide) (fun d3 => ?_) (fun d3 => ?_)
      · skip
        refine w_sub (lv2 := [(0, .ref 47), (1, .long (jL x)), (3, .int (iI m)), (4, .int (iI 0))]) [1, 2, 3, 0] rfl ?_
        exact fin
      · exact absurd d3 (by decide)
  refine v_aload_n dX11_feed_0 rfl ?_
  refine v_iload_n dX11_feed_1 rfl ?_
  refine v_iconst (iI 1) dX11_feed_2 rfl ?_
  refine w_icmp_lt 23 dX11_feed_3 (by decide) (by omega) (by decide) (fun c1 => ?_) (fun c1 => ?_)
  · exact j23
  · skip
    refine v_iload_n dX11_feed_6 rfl ?_
    refine v_bipush (iI 8) dX11_feed_7 rfl ?_
    refine w_icmp_gt 23 dX11_feed_9 (by decide) (by omega) (by decide) (fun c2 => ?_) (fun c2 => ?_)
    · exact j23
    · skip
      refine v_aload_n dX11_feed_12 rfl ?_
      refine v_get fX11_254 dX11_feed_13 h_47 (by decide) rfl ?_
      refine v_iload_n dX11_feed_16 rfl ?_
      refine w_iadd dX11_feed_17 ?_
      refine v_bipush (iI 80) dX11_feed_18 rfl ?_
      refine w_icmp_le 27 dX11_feed_20 (by decide) (by omega) (by decide) (fun c3 => ?_) (fun c3 => ?_)
      · exact absurd c3 (by omega)
      · exact j23
