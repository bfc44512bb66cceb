/-! The tape: the whole scan -/
def sI (f : Nat → Nat) (c : Nat) : Nat := cond (decide (hr f c 0 = 45)) 1 0
def sA (f : Nat → Nat) (c : Nat) : Bool × Nat × Nat × Nat := sdg f (c - sI f c) (sI f c) 0 0
def sAok (f : Nat → Nat) (c : Nat) : Bool := (sA f c).1 && decide (sI f c < (sA f c).2.1)
def sDot (f : Nat → Nat) (c : Nat) : Bool := decide (hr f c (sA f c).2.1 = 46)
def sB (f : Nat → Nat) (c : Nat) : Bool × Nat × Nat × Nat := cond (sDot f c) (sdg f (c - ((sA f c).2.1 + 1)) ((sA f c).2.1 + 1) (sA f c).2.2.1 (sA f c).2.2.2) (true, (sA f c).2)
def sBok (f : Nat → Nat) (c : Nat) : Bool := !sDot f c || ((sB f c).1 && decide ((sA f c).2.1 + 1 < (sB f c).2.1))
def sE (f : Nat → Nat) (c : Nat) : Bool := decide (hr f c (sB f c).2.1 = 101)
def sP (f : Nat → Nat) (c : Nat) : Nat × Nat := spw f c 3 (sgnAt f c ((sB f c).2.1 + 1)) 0
def sEok (f : Nat → Nat) (c : Nat) : Bool := !sE f c || decide (sgnAt f c ((sB f c).2.1 + 1) < (sP f c).1)
def sEnd (f : Nat → Nat) (c : Nat) : Nat := cond (sE f c) (sP f c).1 (sB f c).2.1
def sX (f : Nat → Nat) (c : Nat) : Int := cond (sE f c) (cond (decide (hr f c ((sB f c).2.1 + 1) = 45)) (-((sP f c).2 : Int)) (sP f c).2) 0
def sTens (f : Nat → Nat) (c : Nat) : Int := sX f c + (((sA f c).2.2.1 : Int) - ((sB f c).2.2.1 : Int))
def sOk (f : Nat → Nat) (c : Nat) : Bool := sAok f c && (sBok f c && (sEok f c && decide (sEnd f c = c)))
def sAt (f : Nat → Nat) (c : Nat) : Nat := cond (sAok f c) (cond (sBok f c) (sEnd f c) (sB f c).2.1) (sA f c).2.1
def sN (f : Nat → Nat) (c : Nat) : Bool := decide (hr f c 0 = 78)
def nOk (f : Nat → Nat) (c : Nat) : Bool := decide (hr f c 1 = 97) && (decide (hr f c 2 = 82) && decide (c = 3))
def nAt (f : Nat → Nat) (c : Nat) : Nat := cond (decide (hr f c 1 = 97)) (cond (decide (hr f c 2 = 82)) 3 2) 1
theorem sA_b {f : Nat → Nat} {c : Nat} : (sA f c).2.2.1 ≤ 60 ∧ (sA f c).2.2.2 < 10 ^ (sA f c).2.2.1 ∧ sI f c ≤ (sA f c).2.1 ∧ (sA f c).2.1 ≤ c ∧ sI f c ≤ c := by
  have h0 : sI f c ≤ c := by
    unfold sI
    rcases Bool.eq_false_or_eq_true (decide (hr f c 0 = 45)) with q | q
    · rw [q, cond_true]
      have q := of_decide_eq_true q
      have := hr_in (f := f) (c := c) (i := 0) (by omega)
      omega
    · rw [q, cond_false]; omega
  have := sdg_b (f := f) (c - sI f c) (sI f c) 0 0 (by decide) (by decide)
  unfold sA
  omega
theorem sB_b {f : Nat → Nat} {c : Nat} : (sB f c).2.2.1 ≤ 60 ∧ (sB f c).2.2.2 < 10 ^ (sB f c).2.2.1 ∧ (sA f c).2.1 ≤ (sB f c).2.1 ∧ (sB f c).2.1 ≤ c := by
  have hA := sA_b (f := f) (c := c)
  unfold sB
  rcases Bool.eq_false_or_eq_true (sDot f c) with q | q
  · rw [q, cond_true]
    have q2 : hr f c (sA f c).2.1 = 46 := of_decide_eq_true q
    have := hr_in (f := f) (c := c) (i := (sA f c).2.1) (by omega)
    have := sdg_b (f := f) (c - ((sA f c).2.1 + 1)) ((sA f c).2.1 + 1) (sA f c).2.2.1 (sA f c).2.2.2 (by omega) (by omega)
    omega
  · rw [q, cond_false]; exact ⟨hA.1, hA.2.1, Nat.le_refl _, hA.2.2.2.1⟩
theorem sP_b {f : Nat → Nat} {c : Nat} (hE : sE f c = true) : (sB f c).2.1 < c ∧ (sP f c).1 ≤ c ∧ (sP f c).2 < 1000 := by
  have q2 : hr f c (sB f c).2.1 = 101 := of_decide_eq_true hE
  have h1 := hr_in (f := f) (c := c) (i := (sB f c).2.1) (by omega)
  have h2 := sgnAt_r (f := f) (c := c) (i := (sB f c).2.1 + 1) (by omega)
  have h3 := spw_b (f := f) (c := c) 3 (sgnAt f c ((sB f c).2.1 + 1)) 0 0 (by omega) (by decide)
  unfold sP
  exact ⟨h1.1, h3.2.1, h3.2.2⟩
set_option maxHeartbeats 4000000 in
set_option maxRecDepth 100000 in
theorem p_scan {d n c i0 tk0 D0 : Nat} {t0 : Int} {mi0 na0 : Bool} {f : Nat → Nat} {h : zH} (hT : TP h f c i0 tk0 t0 mi0 na0 D0) (hf : bb f) (hc : c ≤ 80) (hd : 3 ≤ d) :
    zM yX6_scan cX6_scan 2 (some .boolean) d 0 0 [.ref 30] h n (fun r h' n' => r = some (.int (iI (bz (cond (sN f c) (nOk f c) (sOk f c))))) ∧ n' = n ∧ (∃ (tk : Nat) (tens : Int) (mi : Bool) (D : Nat), TP h' f c (cond (sN f c) (nAt f c) (sAt f c)) tk tens mi (sN f c) D ∧ (sN f c = false → sOk f c = true → mi = decide (hr f c 0 = 45) ∧ tens = sTens f c ∧ D = (sB f c).2.2.2)) ∧ zFr [30, 32, 33] h h') := by
  obtain ⟨h_30, h_31, hw⟩ := hT
  have hA := sA_b (f := f) (c := c)
  have hB := sB_b (f := f) (c := c)
  refine zM_of zyX6_scan rfl (Nat.le_of_ble_eq_true rfl) (fun X hX => ?_)
  have fr : zFr [30, 32, 33] h h := zFr.rf
  have hh0 := hr_r hf c 0
  refine v_aload_n dX6_scan_0 rfl ?_
  refine v_iconst (iI 0) dX6_scan_1 rfl ?_
  refine v_put (fs' := [.ref 31, .int (iI (tk0:Nat)), .ref 32, .int (iI (c:Nat)), .int (iI 0), .int (iI t0), .int (iI (bz mi0)), .int (iI (bz na0))]) fX6_24 dX6_scan_2 h_30 (by decide) (Nat.le_of_ble_eq_true rfl) rfl rfl rfl (fun H1 eH1 => ?_)
  have h_30 : H1 30 = oTape 31 (tk0:Nat) 32 (c:Nat) 0 t0 mi0 na0 := zf_same eH1
  have h_31 := (zf_ne eH1 (by decide)).trans h_31
  have fr := fr.put eH1 (by simp)
  refine v_aload_n dX6_scan_5 rfl ?_
  refine v_iconst (iI 0) dX6_scan_6 rfl ?_
  refine v_put (fs' := [.ref 31, .int (iI 0), .ref 32, .int (iI (c:Nat)), .int (iI 0), .int (iI t0), .int (iI (bz mi0)), .int (iI (bz na0))]) fX6_27 dX6_scan_7 h_30 (by decide) (Nat.le_of_ble_eq_true rfl) rfl rfl rfl (fun H2 eH2 => ?_)
  have h_30 : H2 30 = oTape 31 0 32 (c:Nat) 0 t0 mi0 na0 := zf_same eH2
  have h_31 := (zf_ne eH2 (by decide)).trans h_31
  have fr := fr.put eH2 (by simp)
  refine v_aload_n dX6_scan_10 rfl ?_
  refine v_iconst (iI 0) dX6_scan_11 rfl ?_
  refine v_put (fs' := [.ref 31, .int (iI 0), .ref 32, .int (iI (c:Nat)), .int (iI 0), .int (iI 0), .int (iI (bz mi0)), .int (iI (bz na0))]) fX6_30 dX6_scan_12 h_30 (by decide) (Nat.le_of_ble_eq_true rfl) rfl rfl rfl (fun H3 eH3 => ?_)
  have h_30 : H3 30 = oTape 31 0 32 (c:Nat) 0 0 mi0 na0 := zf_same eH3
  have h_31 := (zf_ne eH3 (by decide)).trans h_31
  have fr := fr.put eH3 (by simp)
  refine v_aload_n dX6_scan_15 rfl ?_
  refine v_get fX6_16 dX6_scan_16 h_30 (by decide) rfl ?_
  refine v_lconst (jL 0) dX6_scan_19 rfl ?_
  have hw := hw.fr (((zFr.put (S := [30]) zFr.rf eH1 (by simp)).put eH2 (by simp)).put eH3 (by simp)) (by decide) (by decide)
  obtain ⟨u932, f932, h_32, -⟩ := id hw
  refine v_cV (av := [.long (jL 0)]) (st := []) zyX7_put lX6_33 h_32 rfl (p_put (d := 2) (x := 0) hw (by decide) (by decide)) dX6_scan_20 rfl rfl (Nat.le_of_ble_eq_true rfl) (by omega) (Nat.le_of_ble_eq_true rfl) (Nat.le_of_ble_eq_true rfl) (Or.inl (fun _ _ _ q => ZN q)) (fun r9 G1 n9 q9 => ?_)
  obtain ⟨rfl, q9n, hw, fr9⟩ := q9
  have q9n := q9n.symm
  subst q9n
  have h_30 := (fr9 30 (by decide)).trans h_30
  have h_31 := (fr9 31 (by decide)).trans h_31
  have fr := fr.tr fr9 (by decide)
  refine v_aload_n dX6_scan_23 rfl ?_
  refine v_aload_n dX6_scan_24 rfl ?_
  refine v_cV (av := []) (st := [.ref 30]) zyX6_here lX6_37 h_30 rfl (p_here (d := 2) (i := 0) h_30 h_31 hc (by decide)) dX6_scan_25 rfl rfl (Nat.le_of_ble_eq_true rfl) (by omega) (Nat.le_of_ble_eq_true rfl) (Nat.le_of_ble_eq_true rfl) (Or.inl (fun _ _ _ q => ZN q)) (fun r9 K1 n9 q9 => ?_)
  obtain ⟨rfl, q9n, q9h⟩ := q9
  have q9n := q9n.symm
  subst q9n
  have q9h := q9h.symm
  subst q9h
  have post0 : ∀ {P : Prop}, P → P := fun z => z
  have wdr : ∀ {H H' : zH} {E : Nat}, WD H 32 33 E → zFr [30] H H' → WD H' 32 33 E := fun z1 z2 => z1.fr z2 (by decide) (by decide)
  refine v_bipush (iI 78) dX6_scan_28 rfl ?_
  refine w_icmp_ne 37 dX6_scan_30 (by decide) (by omega) (by decide) (fun c1 => ?_) (fun c1 => ?_)
  · have eN : sN f c = false := decide_eq_false c1
    rw [eN, cond_false, cond_false]
    refine v_iconst (iI 0) dX6_scan_37 rfl ?_
    refine w_ei (bz false) rfl ?_
    refine v_put (fs' := [.ref 31, .int (iI 0), .ref 32, .int (iI (c:Nat)), .int (iI 0), .int (iI 0), .int (iI (bz mi0)), .int (iI (bz false))]) fX6_41 dX6_scan_38 h_30 (by decide) (Nat.le_of_ble_eq_true rfl) bz_n bz_f rfl (fun H4 eH4 => ?_)
    have h_30 : H4 30 = oTape 31 0 32 (c:Nat) 0 0 mi0 false := zf_same eH4
    have h_31 := (zf_ne eH4 (by decide)).trans h_31
    have fr := fr.put eH4 (by simp)
    refine v_aload_n dX6_scan_41 rfl ?_
    refine v_get fX6_41 dX6_scan_42 h_30 (by decide) rfl ?_
    have hw := wdr hw (zFr.put zFr.rf eH4 (by simp))
    refine w_ifb_eq 92 dX6_scan_45 (by decide) (fun c2 => ?_) (fun c2 => ?_)
    · skip
      refine v_aload_n dX6_scan_92 rfl ?_
      refine v_aload_n dX6_scan_93 rfl ?_
      refine v_bipush (iI 45) dX6_scan_94 rfl ?_
      refine v_cV (av := [.int (iI 45)]) (st := [.ref 30]) zyX6_pass lX6_45 h_30 rfl (p_pass (d := 2) (i := 0) h_30 h_31 hf hc (by decide) (by decide) (by decide)) dX6_scan_96 rfl rfl (Nat.le_of_ble_eq_true rfl) (by omega) (Nat.le_of_ble_eq_true rfl) (Nat.le_of_ble_eq_true rfl) (Or.inl (fun _ _ _ q => ZN q)) (fun r9 G2 n9 q9 => ?_)
      obtain ⟨rfl, q9n, h_30, fr8⟩ := q9
      have q9n := q9n.symm
      subst q9n
      have h_31 := (fr8 31 (by decide)).trans h_31
      have hw := wdr hw fr8
      have fr := fr.tr fr8 (by decide)
      rw [show (cond (decide (hr f c 0 = 45)) (0 + 1) 0) = sI f c from rfl] at h_30
      obtain ⟨mi, emi⟩ : ∃ mi, decide (hr f c 0 = 45) = mi := ⟨_, rfl⟩
      refine w_ei (bz mi) (by rw [emi]) ?_
      refine v_put (fs' := [.ref 31, .int (iI 0), .ref 32, .int (iI (c:Nat)), .int (iI (sI f c:Nat)), .int (iI 0), .int (iI (bz mi)), .int (iI (bz false))]) fX6_49 dX6_scan_99 h_30 (by decide) (Nat.le_of_ble_eq_true rfl) bz_n bz_f rfl (fun H5 eH5 => ?_)
      have h_30 : H5 30 = oTape 31 0 32 (c:Nat) (sI f c:Nat) 0 mi false := zf_same eH5
      have h_31 := (zf_ne eH5 (by decide)).trans h_31
      have fr := fr.put eH5 (by simp)
      refine v_aload_n dX6_scan_102 rfl ?_
      have hw := wdr hw (zFr.put zFr.rf eH5 (by simp))
      refine v_cV (av := []) (st := []) zyX6_scanDigits lX6_52 h_30 rfl (p_scanDigits (d := 2) (tk := 0) (D := 0) ⟨h_30, h_31, hw⟩ hf hc (by omega) (by decide) (by decide) (by decide)) dX6_scan_103 rfl rfl (Nat.le_of_ble_eq_true rfl) (by omega) (Nat.le_of_ble_eq_true rfl) (Nat.le_of_ble_eq_true rfl) (Or.inl (fun _ _ _ q => ZN q)) (fun r9 G3 n9 q9 => ?_)
      obtain ⟨rfl, q9n, hT, fr7⟩ := q9
      have q9n := q9n.symm
      subst q9n
      refine w_ei (bz (sAok f c)) rfl ?_
      have fr := fr.tr fr7 (by decide)
      have hT : TP G3 f c (sA f c).2.1 (sA f c).2.2.1 0 mi false (sA f c).2.2.2 := hT
      obtain ⟨h_30, h_31, hw⟩ := hT
      refine w_ifb_ne 111 dX6_scan_106 (by decide) (fun c3 => ?_) (fun c3 => ?_)
      · have fin : ∀ (H : zH) (x : Int), x = sX f c → sBok f c = true → sEok f c = true → TP H f c (sEnd f c) (sB f c).2.2.1 x mi false (sB f c).2.2.2 → zFr [30, 32, 33] h H → zV X (fun r h' n' => r = some (.int (iI (bz (sOk f c)))) ∧ n' = n ∧ (∃ (tk : Nat) (tens : Int) (mi : Bool) (D : Nat), TP h' f c (sAt f c) tk tens mi false D ∧ (false = false → sOk f c = true → mi = decide (hr f c 0 = 45) ∧ tens = sTens f c ∧ D = (sB f c).2.2.2)) ∧ zFr [30, 32, 33] h h') cX6_scan 2 RX6 (some .boolean) d 0 0 152 [(0, .ref 30), (1, .int (iI ((sA f c).2.2.1:Nat)))] [] H n 0 0 := by
          intro H x ex hBk hEk hT fr
          have hEnd : sEnd f c ≤ c := by
            unfold sEnd
            rcases Bool.eq_false_or_eq_true (sE f c) with q | q
            · rw [q, cond_true]; exact (sP_b q).2.1
            · rw [q, cond_false]; omega
          have eAt : sAt f c = sEnd f c := by unfold sAt; rw [c3, hBk, cond_true, cond_true]
          have eOk : sOk f c = decide (sEnd f c = c) := by unfold sOk; rw [c3, hBk, hEk]; rfl
          obtain ⟨h_30, h_31, hw⟩ := hT
          rw [eAt]
          refine v_aload_n dX6_scan_152 rfl ?_
          refine v_dup dX6_scan_153 rfl ?_
          refine v_get fX6_30 dX6_scan_154 h_30 (by decide) rfl ?_
          refine v_iload_n dX6_scan_157 rfl ?_
          refine v_aload_n dX6_scan_158 rfl ?_
          refine v_get fX6_27 dX6_scan_159 h_30 (by decide) rfl ?_
          refine w_isub dX6_scan_162 ?_
          refine w_iadd dX6_scan_163 ?_
          refine w_ei (sTens f c) (by unfold sTens; rw [ex]) ?_
          refine v_put (fs' := [.ref 31, .int (iI ((sB f c).2.2.1:Nat)), .ref 32, .int (iI (c:Nat)), .int (iI (sEnd f c:Nat)), .int (iI (sTens f c)), .int (iI (bz mi)), .int (iI (bz false))]) fX6_30 dX6_scan_164 h_30 (by decide) (Nat.le_of_ble_eq_true rfl) rfl rfl rfl (fun H1 eH1 => ?_)
          have h_30 : H1 30 = oTape 31 ((sB f c).2.2.1:Nat) 32 (c:Nat) (sEnd f c:Nat) (sTens f c) mi false := zf_same eH1
          have h_31 := (zf_ne eH1 (by decide)).trans h_31
          have fr := fr.put eH1 (by simp)
          refine v_aload_n dX6_scan_167 rfl ?_
          refine v_get fX6_24 dX6_scan_168 h_30 (by decide) rfl ?_
          refine v_aload_n dX6_scan_171 rfl ?_
          refine v_get fX6_20 dX6_scan_172 h_30 (by decide) rfl ?_
          have hw := wdr hw (zFr.put zFr.rf eH1 (by simp))
          refine w_icmp_ne 182 dX6_scan_175 (by decide) (by omega) (by omega) (fun c4 => ?_) (fun c4 => ?_)
          · skip
            refine v_iconst (iI 0) dX6_scan_182 rfl ?_
            refine w_ei (bz false) rfl ?_
            exact v_iret dX6_scan_183 bz_ret (Nat.le_of_ble_eq_true rfl) (Nat.le_of_ble_eq_true rfl) ⟨by rw [eOk, decide_eq_false (by omega)], rfl, ⟨_, _, _, _, ⟨h_30, h_31, hw⟩, fun _ _ => ⟨emi.symm, rfl, rfl⟩⟩, fr⟩
          · skip
            refine v_iconst (iI 1) dX6_scan_178 rfl ?_
            refine v_goto 183 dX6_scan_179 (by decide) ?_
            refine w_ei (bz true) rfl ?_
            exact v_iret dX6_scan_183 bz_ret (Nat.le_of_ble_eq_true rfl) (Nat.le_of_ble_eq_true rfl) ⟨by rw [eOk, decide_eq_true (by omega)], rfl, ⟨_, _, _, _, ⟨h_30, h_31, hw⟩, fun _ _ => ⟨emi.symm, rfl, rfl⟩⟩, fr⟩
        have j134 : ∀ H : zH, sBok f c = true → TP H f c (sB f c).2.1 (sB f c).2.2.1 0 mi false (sB f c).2.2.2 → zFr [30, 32, 33] h H → zV X (fun r h' n' => r = some (.int (iI (bz (sOk f c)))) ∧ n' = n ∧ (∃ (tk : Nat) (tens : Int) (mi : Bool) (D : Nat), TP h' f c (sAt f c) tk tens mi false D ∧ (false = false → sOk f c = true → mi = decide (hr f c 0 = 45) ∧ tens = sTens f c ∧ D = (sB f c).2.2.2)) ∧ zFr [30, 32, 33] h h') cX6_scan 2 RX6 (some .boolean) d 0 0 134 [(0, .ref 30), (1, .int (iI ((sA f c).2.2.1:Nat)))] [] H n 0 0 := by
          intro H hBk hT fr
          obtain ⟨h_30, h_31, hw⟩ := hT
          refine v_aload_n dX6_scan_134 rfl ?_
          refine v_bipush (iI 101) dX6_scan_135 rfl ?_
          refine v_cV (av := [.int (iI 101)]) (st := []) zyX6_pass lX6_45 h_30 rfl (p_pass (d := 2) h_30 h_31 hf hc (by omega) (by decide) (by decide)) dX6_scan_137 rfl rfl (Nat.le_of_ble_eq_true rfl) (by omega) (Nat.le_of_ble_eq_true rfl) (Nat.le_of_ble_eq_true rfl) (Or.inl (fun _ _ _ q => ZN q)) (fun r9 G4 n9 q9 => ?_)
          obtain ⟨rfl, q9n, h_30, fr8⟩ := q9
          have q9n := q9n.symm
          subst q9n
          rw [show decide (hr f c (sB f c).2.1 = 101) = sE f c from rfl] at h_30 ⊢
          have h_31 := (fr8 31 (by decide)).trans h_31
          have hw := wdr hw fr8
          have fr := fr.tr fr8 (by decide)
          refine w_ifb_eq 152 dX6_scan_140 (by decide) (fun c4 => ?_) (fun c4 => ?_)
          · rw [c4, cond_false] at h_30
            exact fin _ 0 (by unfold sX; rw [c4, cond_false]) hBk (by unfold sEok; rw [c4]; rfl) (by rw [show sEnd f c = (sB f c).2.1 from by unfold sEnd; rw [c4, cond_false]]; exact ⟨h_30, h_31, hw⟩) fr
          · rw [c4, cond_true] at h_30
            have hPb := sP_b c4
            refine v_aload_n dX6_scan_143 rfl ?_
            refine v_cV (av := []) (st := []) zyX6_scanPower lX6_56 h_30 rfl (p_scanPower (d := 2) ⟨h_30, h_31, hw⟩ hf hc (by omega) (by decide)) dX6_scan_144 rfl rfl (Nat.le_of_ble_eq_true rfl) (by omega) (Nat.le_of_ble_eq_true rfl) (Nat.le_of_ble_eq_true rfl) (Or.inl (fun _ _ _ q => ZN q)) (fun r9 G5 n9 q9 => ?_)
            obtain ⟨rfl, q9n, hT, fr7⟩ := q9
            have q9n := q9n.symm
            subst q9n
            refine w_ei (bz (decide (sgnAt f c ((sB f c).2.1 + 1) < (sP f c).1))) rfl ?_
            have fr := fr.tr fr7 (by decide)
            have hT : TP G5 f c (sP f c).1 (sB f c).2.2.1 (cond (decide (hr f c ((sB f c).2.1 + 1) = 45)) (-((sP f c).2 : Int)) (sP f c).2) mi false (sB f c).2.2.2 := hT
            have eEnd : sEnd f c = (sP f c).1 := by unfold sEnd; rw [c4, cond_true]
            refine w_ifb_ne 152 dX6_scan_147 (by decide) (fun c5 => ?_) (fun c5 => ?_)
            · exact fin _ _ (by unfold sX; rw [c4, cond_true]) hBk (by unfold sEok; rw [c4, c5]; rfl) (by rw [eEnd]; exact hT) fr
            · have eEk : sEok f c = false := by unfold sEok; rw [c4, c5]; rfl
              have eOk : sOk f c = false := by unfold sOk; rw [c3, hBk, eEk]; rfl
              have eAt : sAt f c = (sP f c).1 := by unfold sAt; rw [c3, hBk, cond_true, cond_true, eEnd]
              refine v_iconst (iI 0) dX6_scan_150 rfl ?_
              refine w_ei (bz false) rfl ?_
              exact v_iret dX6_scan_151 bz_ret (Nat.le_of_ble_eq_true rfl) (Nat.le_of_ble_eq_true rfl) ⟨by rw [eOk], rfl, ⟨_, _, _, _, by rw [eAt]; exact hT, fun _ z => by rw [eOk] at z; exact absurd z (by decide)⟩, fr⟩
        refine v_aload_n dX6_scan_111 rfl ?_
        refine v_get fX6_27 dX6_scan_112 h_30 (by decide) rfl ?_
        refine v_istore_n (i := 1) (lv' := [(1, .int (iI ((sA f c).2.2.1:Nat))), (0, .ref 30)]) dX6_scan_115 rfl (by decide) rfl ?_
        refine v_aload_n dX6_scan_116 rfl ?_
        refine v_bipush (iI 46) dX6_scan_117 rfl ?_
        refine v_cV (av := [.int (iI 46)]) (st := []) zyX6_pass lX6_45 h_30 rfl (p_pass (d := 2) h_30 h_31 hf hc (by omega) (by decide) (by decide)) dX6_scan_119 rfl rfl (Nat.le_of_ble_eq_true rfl) (by omega) (Nat.le_of_ble_eq_true rfl) (Nat.le_of_ble_eq_true rfl) (Or.inl (fun _ _ _ q => ZN q)) (fun r9 G4 n9 q9 => ?_)
        obtain ⟨rfl, q9n, h_30, fr6⟩ := q9
        have q9n := q9n.symm
        subst q9n
        rw [show decide (hr f c (sA f c).2.1 = 46) = sDot f c from rfl] at h_30 ⊢
        have h_31 := (fr6 31 (by decide)).trans h_31
        have hw := wdr hw fr6
        have fr := fr.tr fr6 (by decide)
        refine w_ifb_eq 134 dX6_scan_122 (by decide) (fun c4 => ?_) (fun c4 => ?_)
        · rw [c4, cond_false] at h_30
          have eB : sB f c = (true, (sA f c).2) := by unfold sB; rw [c4, cond_false]
          refine w_sub (lv2 := [(0, .ref 30), (1, .int (iI ((sA f c).2.2.1:Nat)))]) [1, 0] rfl ?_
          exact j134 _ (by unfold sBok; rw [c4]; rfl) (by rw [eB]; exact ⟨h_30, h_31, hw⟩) fr
        · rw [c4, cond_true] at h_30
          have eB : sB f c = sdg f (c - ((sA f c).2.1 + 1)) ((sA f c).2.1 + 1) (sA f c).2.2.1 (sA f c).2.2.2 := by unfold sB; rw [c4, cond_true]
          have q2 : hr f c (sA f c).2.1 = 46 := of_decide_eq_true c4
          have hin := hr_in (f := f) (c := c) (i := (sA f c).2.1) (by omega)
          refine v_aload_n dX6_scan_125 rfl ?_
          refine v_cV (av := []) (st := []) zyX6_scanDigits lX6_52 h_30 rfl (p_scanDigits (d := 2) ⟨h_30, h_31, hw⟩ hf hc (by omega) (by omega) (by omega) (by decide)) dX6_scan_126 rfl rfl (Nat.le_of_ble_eq_true rfl) (by omega) (Nat.le_of_ble_eq_true rfl) (Nat.le_of_ble_eq_true rfl) (Or.inl (fun _ _ _ q => ZN q)) (fun r9 G5 n9 q9 => ?_)
          obtain ⟨rfl, q9n, hT, fr5⟩ := q9
          have q9n := q9n.symm
          subst q9n
          rw [← eB] at hT ⊢
          have fr := fr.tr fr5 (by decide)
          refine w_ifb_ne 134 dX6_scan_129 (by decide) (fun c5 => ?_) (fun c5 => ?_)
          · skip
            refine w_sub (lv2 := [(0, .ref 30), (1, .int (iI ((sA f c).2.2.1:Nat)))]) [1, 0] rfl ?_
            exact j134 _ (by unfold sBok; rw [c4, c5]; rfl) hT fr
          · have eBk : sBok f c = false := by unfold sBok; rw [c4, c5]; rfl
            have eOk : sOk f c = false := by unfold sOk; rw [c3, eBk]; rfl
            have eAt : sAt f c = (sB f c).2.1 := by unfold sAt; rw [c3, eBk, cond_true, cond_false]
            refine v_iconst (iI 0) dX6_scan_132 rfl ?_
            refine w_ei (bz false) rfl ?_
            exact v_iret dX6_scan_133 bz_ret (Nat.le_of_ble_eq_true rfl) (Nat.le_of_ble_eq_true rfl) ⟨by rw [eOk], rfl, ⟨_, _, _, _, by rw [eAt]; exact hT, fun _ z => by rw [eOk] at z; exact absurd z (by decide)⟩, fr⟩
      · have eOk : sOk f c = false := by unfold sOk; rw [c3]; rfl
        have eAt : sAt f c = (sA f c).2.1 := by unfold sAt; rw [c3, cond_false]
        refine v_iconst (iI 0) dX6_scan_109 rfl ?_
        refine w_ei (bz false) rfl ?_
        exact v_iret dX6_scan_110 bz_ret (Nat.le_of_ble_eq_true rfl) (Nat.le_of_ble_eq_true rfl) ⟨by rw [eOk], rfl, ⟨_, _, _, _, by rw [eAt]; exact ⟨h_30, h_31, hw⟩, fun _ z => by rw [eOk] at z; exact absurd z (by decide)⟩, fr⟩
    · exact absurd c2 (by decide)
  · have eN : sN f c = true := decide_eq_true c1
    rw [eN, cond_true, cond_true]
    have nfin : ∀ (H : zH) (i : Nat), nAt f c = i → nOk f c = false → H 30 = oTape 31 0 32 (c:Nat) (i:Nat) 0 mi0 true → H 31 = aN 80 f → WD H 32 33 0 → zFr [30, 32, 33] h H → zV X (fun r h' n' => r = some (.int (iI (bz (nOk f c)))) ∧ n' = n ∧ (∃ (tk : Nat) (tens : Int) (mi : Bool) (D : Nat), TP h' f c (nAt f c) tk tens mi true D ∧ (true = false → sOk f c = true → mi = decide (hr f c 0 = 45) ∧ tens = sTens f c ∧ D = (sB f c).2.2.2)) ∧ zFr [30, 32, 33] h h') cX6_scan 2 RX6 (some .boolean) d 0 0 90 [(0, .ref 30)] [] H n 0 0 := by
      intro H i ei eo h_30 h_31 hw fr
      refine v_iconst (iI 0) dX6_scan_90 rfl ?_
      refine w_ei (bz false) rfl ?_
      exact v_iret dX6_scan_91 bz_ret (Nat.le_of_ble_eq_true rfl) (Nat.le_of_ble_eq_true rfl) ⟨by rw [eo], rfl, ⟨0, _, _, _, by rw [ei]; exact ⟨h_30, h_31, hw⟩, fun z => absurd z (by decide)⟩, fr⟩
    refine v_iconst (iI 1) dX6_scan_33 rfl ?_
    refine v_goto 38 dX6_scan_34 (by decide) ?_
    refine w_ei (bz true) rfl ?_
    refine v_put (fs' := [.ref 31, .int (iI 0), .ref 32, .int (iI (c:Nat)), .int (iI 0), .int (iI 0), .int (iI (bz mi0)), .int (iI (bz true))]) fX6_41 dX6_scan_38 h_30 (by decide) (Nat.le_of_ble_eq_true rfl) bz_n bz_f rfl (fun H4 eH4 => ?_)
    have h_30 : H4 30 = oTape 31 0 32 (c:Nat) 0 0 mi0 true := zf_same eH4
    have h_31 := (zf_ne eH4 (by decide)).trans h_31
    have fr := fr.put eH4 (by simp)
    refine v_aload_n dX6_scan_41 rfl ?_
    refine v_get fX6_41 dX6_scan_42 h_30 (by decide) rfl ?_
    have hw := wdr hw (zFr.put zFr.rf eH4 (by simp))
    refine w_ifb_eq 92 dX6_scan_45 (by decide) (fun c2 => ?_) (fun c2 => ?_)
    · exact absurd c2 (by decide)
    · skip
      refine v_aload_n dX6_scan_48 rfl ?_
      refine v_bipush (iI 78) dX6_scan_49 rfl ?_
      refine v_cV (av := [.int (iI 78)]) (st := []) zyX6_pass lX6_45 h_30 rfl (p_pass (d := 2) (i := 0) h_30 h_31 hf hc (by decide) (by decide) (by decide)) dX6_scan_51 rfl rfl (Nat.le_of_ble_eq_true rfl) (by omega) (Nat.le_of_ble_eq_true rfl) (Nat.le_of_ble_eq_true rfl) (Or.inl (fun _ _ _ q => ZN q)) (fun r9 G2 n9 q9 => ?_)
      obtain ⟨rfl, q9n, h_30, fr8⟩ := q9
      have q9n := q9n.symm
      subst q9n
      have h_31 := (fr8 31 (by decide)).trans h_31
      have hw := wdr hw fr8
      have fr := fr.tr fr8 (by decide)
      rw [show decide (hr f c 0 = 78) = true from eN] at h_30 ⊢
      rw [cond_true] at h_30
      refine w_ei (bz true) rfl ?_
      refine w_ifb_eq 90 dX6_scan_54 (by decide) (fun c3 => ?_) (fun c3 => ?_)
      · exact absurd c3 (by decide)
      · skip
        refine v_aload_n dX6_scan_57 rfl ?_
        refine v_bipush (iI 97) dX6_scan_58 rfl ?_
        refine v_cV (av := [.int (iI 97)]) (st := []) zyX6_pass lX6_45 h_30 rfl (p_pass (d := 2) (i := 1) h_30 h_31 hf hc (by decide) (by decide) (by decide)) dX6_scan_60 rfl rfl (Nat.le_of_ble_eq_true rfl) (by omega) (Nat.le_of_ble_eq_true rfl) (Nat.le_of_ble_eq_true rfl) (Or.inl (fun _ _ _ q => ZN q)) (fun r9 G3 n9 q9 => ?_)
        obtain ⟨rfl, q9n, h_30, fr7⟩ := q9
        have q9n := q9n.symm
        subst q9n
        have h_31 := (fr7 31 (by decide)).trans h_31
        have hw := wdr hw fr7
        have fr := fr.tr fr7 (by decide)
        refine w_ifb_eq 90 dX6_scan_63 (by decide) (fun c4 => ?_) (fun c4 => ?_)
        · rw [c4, cond_false] at h_30
          exact nfin _ 1 (by unfold nAt; rw [c4, cond_false]) (by unfold nOk; rw [c4]; rfl) h_30 h_31 hw fr
        · rw [c4, cond_true] at h_30
          refine v_aload_n dX6_scan_66 rfl ?_
          refine v_bipush (iI 82) dX6_scan_67 rfl ?_
          refine v_cV (av := [.int (iI 82)]) (st := []) zyX6_pass lX6_45 h_30 rfl (p_pass (d := 2) (i := 2) h_30 h_31 hf hc (by decide) (by decide) (by decide)) dX6_scan_69 rfl rfl (Nat.le_of_ble_eq_true rfl) (by omega) (Nat.le_of_ble_eq_true rfl) (Nat.le_of_ble_eq_true rfl) (Or.inl (fun _ _ _ q => ZN q)) (fun r9 G4 n9 q9 => ?_)
          obtain ⟨rfl, q9n, h_30, fr6⟩ := q9
          have q9n := q9n.symm
          subst q9n
          have h_31 := (fr6 31 (by decide)).trans h_31
          have hw := wdr hw fr6
          have fr := fr.tr fr6 (by decide)
          refine w_ifb_eq 90 dX6_scan_72 (by decide) (fun c5 => ?_) (fun c5 => ?_)
          · rw [c5, cond_false] at h_30
            exact nfin _ 2 (by unfold nAt; rw [c4, c5]; rfl) (by unfold nOk; rw [c4, c5]; rfl) h_30 h_31 hw fr
          · rw [c5, cond_true] at h_30
            have eAt : nAt f c = 3 := by unfold nAt; rw [c4, c5]; rfl
            have eOk : nOk f c = decide (c = 3) := by unfold nOk; rw [c4, c5]; rfl
            refine v_aload_n dX6_scan_75 rfl ?_
            refine v_get fX6_24 dX6_scan_76 h_30 (by decide) rfl ?_
            refine v_aload_n dX6_scan_79 rfl ?_
            refine v_get fX6_20 dX6_scan_80 h_30 (by decide) rfl ?_
            refine w_icmp_ne 90 dX6_scan_83 (by decide) (by omega) (by omega) (fun c6 => ?_) (fun c6 => ?_)
            · exact nfin _ 3 eAt (by rw [eOk, decide_eq_false (by omega)]) h_30 h_31 hw fr
            · skip
              refine v_iconst (iI 1) dX6_scan_86 rfl ?_
              refine v_goto 91 dX6_scan_87 (by decide) ?_
              refine w_ei (bz true) rfl ?_
              exact v_iret dX6_scan_91 bz_ret (Nat.le_of_ble_eq_true rfl) (Nat.le_of_ble_eq_true rfl) ⟨by rw [eOk, decide_eq_true (by omega)], rfl, ⟨0, _, _, _, by rw [eAt]; exact ⟨h_30, h_31, hw⟩, fun z => absurd z (by decide)⟩, fr⟩
