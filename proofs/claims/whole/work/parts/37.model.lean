/-! The reference: write -/
theorem QA.f1 {h h' : zH} {Q : Nat → Int} {qn : Nat → Bool} {S : List Nat} (q : QA h Q qn) (f : zFr S h h') (hs : ∀ x ∈ S, x < 78 ∨ 89 < x) : QA h' Q qn := q.fr f hs
/-- what may be written of a pattern p of width w -/
def wrt (p w : Nat) (br : Bool) (T : List Nat) : Prop := (p = 2 ^ (w - 1) ∧ T = [78, 97, 82]) ∨ (p = 0 ∧ p ≠ 2 ^ (w - 1) ∧ T = [48]) ∨ (p ≠ 0 ∧ p ≠ 2 ^ (w - 1) ∧ ∃ (s : Int) (M : Nat) (E : Int), lk p w s M E ∧ M < 4294967296 ∧ ((br = false ∧ T = exT s M E) ∨ (br = true ∧ ∃ j k dd cc, SC M E j k ∧ rsS w (pmag p w) (2 ^ (-E).toNat * 10 ^ j) ((j : Int) - k) 58 (M * 2 ^ E.toNat * 10 ^ k) 0 0 = some (dd, cc) ∧ T = (if s < 0 then [45] else []) ++ fwT dd ((j : Int) - k) cc)))
/-- the shortest decimal is found -/
def wrS (p w : Nat) : Prop := p ≠ 0 → p ≠ 2 ^ (w - 1) → ∀ (s : Int) (M : Nat) (E : Int), lk p w s M E → M < 4294967296 → ∃ j k dd cc, SC M E j k ∧ rsS w (pmag p w) (2 ^ (-E).toNat * 10 ^ j) ((j : Int) - k) 58 (M * 2 ^ E.toNat * 10 ^ k) 0 0 = some (dd, cc)
set_option maxHeartbeats 8000000 in
set_option maxRecDepth 100000 in
theorem p_Mwritex {d n tc : Nat} {wd pt tf : Nat → Nat} {Q : Nat → Int} {qn : Nat → Bool} {L : List Nat} {th r : Int} {b : Bool} {h : zH} (hM : MD h wd pt Q qn tf tc L th) (hr_r : -2147483648 ≤ r ∧ r < 2147483648) (hx : isP r = false) (hd : 2 ≤ d) :
    zM yX11_write cX11_write 5 (some .int) d 0 0 [.ref 47, .int (iI r), .int (iI (bz b))] h n (fun r9 h' n' => r9 = some (.int (iI 0)) ∧ n' = n ∧ MD h' wd pt Q qn tf tc L 1 ∧ zFr MOL h h') := by
  obtain ⟨vs, vm, ve, sg, e, rt, at9, sz, dg, pw, tn, fm, h_47, h_48, h_49, ⟨nA, nB, nL, nR, nP, nS, nN, nD, nLo, nUp⟩, h_58, ⟨Q0, n0, hS⟩, hq, h_66, ⟨tx, h_67, hbb, htx⟩, ⟨fg, h_68⟩, ⟨fw, h_73⟩⟩ := id hM
  refine zM_of zyX11_write rfl (Nat.le_of_ble_eq_true rfl) (fun X hX => ?_)
  have fr : zFr MOL h h := zFr.rf
  refine v_aload_n dX11_write_0 rfl ?_
  refine v_iload_n dX11_write_1 rfl ?_
  refine v_cS (av := [.int (iI r)]) (st := [.ref 47]) zyX11_isPlace lX11_165 (p_isPlace (d := 1) hr_r) dX11_write_2 rfl rfl (Nat.le_of_ble_eq_true rfl) (by omega) (Nat.le_of_ble_eq_true rfl) (Nat.le_of_ble_eq_true rfl) (Or.inl (fun _ _ _ q => ZN q)) (fun r9 K1 n9 q9 => ?_)
  obtain ⟨rfl, q9n, q9h⟩ := q9
  have q9n := q9n.symm
  subst q9n
  have q9h := q9h.symm
  subst q9h
  refine w_ei (bz (isP r)) rfl ?_
  refine v_iconst (iI 1) dX11_write_5 rfl ?_
  refine w_ei (bz true) rfl ?_
  refine v_cV (av := [.int (iI (bz (isP r))), .int (iI (bz true))]) (st := []) zyX11_goes lX11_172 h_47 rfl (p_goes (d := 1) h_47) dX11_write_6 rfl rfl (Nat.le_of_ble_eq_true rfl) (by omega) (Nat.le_of_ble_eq_true rfl) (Nat.le_of_ble_eq_true rfl) (Or.inl (fun _ _ _ q => ZN q)) (fun r9 G1 n9 q9 => ?_)
  obtain ⟨rfl, q9n, h_47, fr9⟩ := q9
  have q9n := q9n.symm
  subst q9n
  rw [hx] at h_47
  have h_48 := (fr9 48 (by decide)).trans h_48
  have h_49 := (fr9 49 (by decide)).trans h_49
  have h_58 := (fr9 58 (by decide)).trans h_58
  have h_66 := (fr9 66 (by decide)).trans h_66
  have h_67 := (fr9 67 (by decide)).trans h_67
  have h_68 := (fr9 68 (by decide)).trans h_68
  have h_73 := (fr9 73 (by decide)).trans h_73
  have nA := nA.fr fr9 (by decide) (by decide)
  have nB := nB.fr fr9 (by decide) (by decide)
  have nL := nL.fr fr9 (by decide) (by decide)
  have nR := nR.fr fr9 (by decide) (by decide)
  have nP := nP.fr fr9 (by decide) (by decide)
  have nS := nS.fr fr9 (by decide) (by decide)
  have nN := nN.fr fr9 (by decide) (by decide)
  have nD := nD.fr fr9 (by decide) (by decide)
  have nLo := nLo.fr fr9 (by decide) (by decide)
  have nUp := nUp.fr fr9 (by decide) (by decide)
  have hS := hS.fr fr9 (by decide) (by decide) (by decide)
  have hq := hq.fr fr9 (by decide)
  have fr := fr.tr fr9 (by decide)
  refine w_ifb_ne 14 dX11_write_9 (by decide) (fun c1 => ?_) (fun c1 => ?_)
  · rw [hx] at c1; exact absurd c1 (by decide)
  · skip
    refine v_iconst (iI 0) dX11_write_12 rfl ?_
    exact v_iret dX11_write_13 trivial (Nat.le_of_ble_eq_true rfl) (Nat.le_of_ble_eq_true rfl) ⟨rfl, rfl, ⟨_, _, _, _, _, _, _, _, _, _, _, _, h_47, h_48, h_49, ⟨nA, nB, nL, nR, nP, nS, nN, nD, nLo, nUp⟩, h_58, ⟨_, _, hS⟩, hq, h_66, ⟨_, h_67, hbb, htx⟩, ⟨_, h_68⟩, ⟨_, h_73⟩⟩, fr⟩
set_option maxHeartbeats 8000000 in
set_option maxRecDepth 100000 in
theorem p_Mwrite {d n tc a1 : Nat} {wd pt tf : Nat → Nat} {Q : Nat → Int} {qn : Nat → Bool} {L : List Nat} {th : Int} {br : Bool} {h : zH} (hM : MD h wd pt Q qn tf tc L th) (hPL : PL wd pt) (h1 : a1 < 32) (hws : br = true → wrS (pt a1) (wd a1)) (hd : 8 ≤ d) :
    zM yX11_write cX11_write 5 (some .int) d 0 0 [.ref 47, .int (iI (a1:Nat)), .int (iI (bz br))] h n (fun r9 h' n' => (∃ T, r9 = some (.int (iI (T.length:Nat))) ∧ MD h' wd pt Q qn tf tc T 0 ∧ wrt (pt a1) (wd a1) br T) ∧ n' = n ∧ zFr MOL h h') := by
  obtain ⟨vs, vm, ve, sg, e, rt, at9, sz, dg, pw, tn, fm, h_47, h_48, h_49, ⟨nA, nB, nL, nR, nP, nS, nN, nD, nLo, nUp⟩, h_58, ⟨Q0, n0, hS⟩, hq, h_66, hT, hF, hW⟩ := id hM
  have hT : TX h L := hT
  have hF : FG h := hF
  have hW : FW h := hW
  have w1 := hPL a1 h1
  obtain ⟨q, eq⟩ : ∃ q, 2 ^ (wd a1 - 1) = q := ⟨_, rfl⟩
  have e2 : 2 ^ wd a1 = 2 * q := by rw [← eq, Nat.mul_comm, ← Nat.pow_succ]; congr 1; omega
  have hq2 : q ≤ 2147483648 := by rw [← eq]; exact Nat.pow_le_pow_right (show 0 < 2 by decide) (show wd a1 - 1 ≤ 31 by omega)
  have hq1 : 0 < q := by rw [← eq]; exact p_pos _
  have hpt : pt a1 < 2 * q := by rw [← e2]; exact w1.2.2
  refine zM_of zyX11_write rfl (Nat.le_of_ble_eq_true rfl) (fun X hX => ?_)
  have fr : zFr MOL h h := zFr.rf
  refine v_aload_n dX11_write_0 rfl ?_
  refine v_iload_n dX11_write_1 rfl ?_
  refine v_cS (av := [.int (iI (a1:Nat))]) (st := [.ref 47]) zyX11_isPlace lX11_165 (p_isPlaceT (d := 7) h1) dX11_write_2 rfl rfl (Nat.le_of_ble_eq_true rfl) (by omega) (Nat.le_of_ble_eq_true rfl) (Nat.le_of_ble_eq_true rfl) (Or.inl (fun _ _ _ q => ZN q)) (fun r9 K1 n9 q9 => ?_)
  obtain ⟨rfl, q9n, q9h⟩ := q9
  have q9n := q9n.symm
  subst q9n
  have q9h := q9h.symm
  subst q9h
  refine v_iconst (iI 1) dX11_write_5 rfl ?_
  refine w_ei (bz true) rfl ?_
  refine v_cV (av := [.int (iI (bz true)), .int (iI (bz true))]) (st := []) zyX11_goes lX11_172 h_47 rfl (p_goesT (d := 7) h_47) dX11_write_6 rfl rfl (Nat.le_of_ble_eq_true rfl) (by omega) (Nat.le_of_ble_eq_true rfl) (Nat.le_of_ble_eq_true rfl) (Or.inl (fun _ _ _ q => ZN q)) (fun r9 G1 n9 q9 => ?_)
  obtain ⟨rfl, q9n, h_47, fr9⟩ := q9
  have q9n := q9n.symm
  subst q9n
  have h_48 := (fr9 48 (by decide)).trans h_48
  have h_49 := (fr9 49 (by decide)).trans h_49
  have h_58 := (fr9 58 (by decide)).trans h_58
  have h_66 := (fr9 66 (by decide)).trans h_66
  have nA := nA.fr fr9 (by decide) (by decide)
  have nB := nB.fr fr9 (by decide) (by decide)
  have nL := nL.fr fr9 (by decide) (by decide)
  have nR := nR.fr fr9 (by decide) (by decide)
  have nP := nP.fr fr9 (by decide) (by decide)
  have nS := nS.fr fr9 (by decide) (by decide)
  have nN := nN.fr fr9 (by decide) (by decide)
  have nD := nD.fr fr9 (by decide) (by decide)
  have nLo := nLo.fr fr9 (by decide) (by decide)
  have nUp := nUp.fr fr9 (by decide) (by decide)
  have hS := hS.fr fr9 (by decide) (by decide) (by decide)
  have hq := hq.fr fr9 (by decide)
  have hT := hT.fr fr9 (by decide)
  have hF := hF.fr fr9 (by decide)
  have hW := hW.fr fr9 (by decide)
  have fr := fr.tr fr9 (by decide)
  refine w_ifb_ne 14 dX11_write_9 (by decide) (fun c1 => ?_) (fun c1 => ?_)
  · skip
    refine v_aload_n dX11_write_14 rfl ?_
    refine v_iconst (iI 0) dX11_write_15 rfl ?_
    refine v_put (fs' := [.int (iI vs), .long (jL vm), .int (iI ve), .ref 48, .ref 49, .int (iI sg), .ref 50, .ref 52, .int (iI e), .int (iI rt), .ref 54, .ref 56, .ref 58, .ref 59, .ref 62, .ref 64, .int (iI 0), .ref 66, .int (iI (tc:Nat)), .ref 67, .int (iI 0), .int (iI at9), .int (iI sz), .int (iI dg), .int (iI pw), .ref 68, .ref 69, .ref 71, .int (iI tn), .ref 73, .int (iI fm), .ref 74, .ref 76]) fX11_291 dX11_write_16 h_47 (by decide) (Nat.le_of_ble_eq_true rfl) rfl rfl rfl (fun H1 eH1 => ?_)
    have h_47 : H1 47 = oModel vs vm ve sg e rt 0 (tc:Nat) 0 at9 sz dg pw tn fm := zf_same eH1
    have h_48 := (zf_ne eH1 (by decide)).trans h_48
    have h_49 := (zf_ne eH1 (by decide)).trans h_49
    have fr := fr.put eH1 (by simp)
    have fz : zFr [47] G1 H1 := zFr.put zFr.rf eH1 (by simp)
    obtain ⟨ft, h_67, hbb, -⟩ := id hT
    have hT : TX G1 [] := ⟨ft, h_67, hbb, txt_nil ft⟩
    have h_58 := (fz 58 (by decide)).trans h_58
    have h_66 := (fz 66 (by decide)).trans h_66
    have nA := nA.fr fz (by decide) (by decide)
    have nB := nB.fr fz (by decide) (by decide)
    have nL := nL.fr fz (by decide) (by decide)
    have nR := nR.fr fz (by decide) (by decide)
    have nP := nP.fr fz (by decide) (by decide)
    have nS := nS.fr fz (by decide) (by decide)
    have nN := nN.fr fz (by decide) (by decide)
    have nD := nD.fr fz (by decide) (by decide)
    have nLo := nLo.fr fz (by decide) (by decide)
    have nUp := nUp.fr fz (by decide) (by decide)
    have hS := hS.fr fz (by decide) (by decide) (by decide)
    have hq := hq.fr fz (by decide)
    have hT := hT.fr fz (by decide)
    have hF := hF.fr fz (by decide)
    have hW := hW.fr fz (by decide)
    have h_47 : H1 47 = oModel vs vm ve sg e rt 0 (tc:Nat) (([] : List Nat).length:Nat) at9 sz dg pw tn fm := h_47
    refine v_aload_n dX11_write_19 rfl ?_
    refine v_iload_n dX11_write_20 rfl ?_
    refine v_cV (av := [.int (iI (a1:Nat))]) (st := []) zyX11_isNar lX11_176 h_47 rfl (p_misNar (d := 7) h_47 h_48 h_49 hPL h1) dX11_write_21 rfl rfl (Nat.le_of_ble_eq_true rfl) (by omega) (Nat.le_of_ble_eq_true rfl) (Nat.le_of_ble_eq_true rfl) (Or.inl (fun _ _ _ q => ZN q)) (fun r9 K2 n9 q9 => ?_)
    obtain ⟨rfl, q9n, q9h⟩ := q9
    have q9n := q9n.symm
    subst q9n
    have q9h := q9h.symm
    subst q9h
    refine w_ifb_eq 50 dX11_write_24 (by decide) (fun x1 => ?_) (fun x1 => ?_)
    · have x1 := of_decide_eq_false x1
      refine v_aload_n dX11_write_50 rfl ?_
      refine v_iload_n dX11_write_51 rfl ?_
      refine v_cV (av := [.int (iI (a1:Nat))]) (st := []) zyX11_look lX11_112 h_47 rfl (p_look (d := 7) h_47 h_48 h_49 hPL h1 (by decide)) dX11_write_52 rfl rfl (Nat.le_of_ble_eq_true rfl) (by omega) (Nat.le_of_ble_eq_true rfl) (Nat.le_of_ble_eq_true rfl) (Or.inl (fun _ _ _ q => ZN q)) (fun r9 G2 n9 q9 => ?_)
      obtain ⟨rfl, q9n, ⟨s, M, E, h_47, hl, hM2, hE1, hE2⟩, fr8⟩ := q9
      have q9n := q9n.symm
      subst q9n
      have h_48 := (fr8 48 (by decide)).trans h_48
      have h_49 := (fr8 49 (by decide)).trans h_49
      have h_58 := (fr8 58 (by decide)).trans h_58
      have h_66 := (fr8 66 (by decide)).trans h_66
      have nA := nA.fr fr8 (by decide) (by decide)
      have nB := nB.fr fr8 (by decide) (by decide)
      have nL := nL.fr fr8 (by decide) (by decide)
      have nR := nR.fr fr8 (by decide) (by decide)
      have nP := nP.fr fr8 (by decide) (by decide)
      have nS := nS.fr fr8 (by decide) (by decide)
      have nN := nN.fr fr8 (by decide) (by decide)
      have nD := nD.fr fr8 (by decide) (by decide)
      have nLo := nLo.fr fr8 (by decide) (by decide)
      have nUp := nUp.fr fr8 (by decide) (by decide)
      have hS := hS.fr fr8 (by decide) (by decide) (by decide)
      have hq := hq.fr fr8 (by decide)
      have hT := hT.fr fr8 (by decide)
      have hF := hF.fr fr8 (by decide)
      have hW := hW.fr fr8 (by decide)
      have fr := fr.tr fr8 (by decide)
      have hl9 := lk_hl hl x1 hM2
      refine v_aload_n dX11_write_55 rfl ?_
      refine v_get fX11_17 dX11_write_56 h_47 (by decide) rfl ?_
      refine w_if_ne 71 dX11_write_59 (by decide) (by omega) (fun c2 => ?_) (fun c2 => ?_)
      · have hp0 : pt a1 ≠ 0 := by
          rcases hl with z | z | z | z
          · omega
          · omega
          · have := z.1; omega
          · exact absurd z.1 x1
        have hlk := lk_pv hl x1
        refine v_iload_n dX11_write_71 rfl ?_
        refine w_ifb_eq 134 dX11_write_72 (by decide) (fun c3 => ?_) (fun c3 => ?_)
        · skip
          refine v_aload_n dX11_write_134 rfl ?_
          refine v_cV (av := []) (st := []) zyX11_putExact lX11_322 h_47 rfl (p_putExact (d := 7) h_47 hT nP nL nS hF (by omega) (by omega) (by omega) (by decide)) dX11_write_135 rfl rfl (Nat.le_of_ble_eq_true rfl) (by omega) (Nat.le_of_ble_eq_true rfl) (Nat.le_of_ble_eq_true rfl) (Or.inl (fun _ _ _ q => ZN q)) (fun r9 G3 n9 q9 => ?_)
          obtain ⟨rfl, q9n, h_47, hT, nP, nL, nS, hF, fr7⟩ := q9
          have q9n := q9n.symm
          subst q9n
          have h_48 := (fr7 48 (by decide)).trans h_48
          have h_49 := (fr7 49 (by decide)).trans h_49
          have h_58 := (fr7 58 (by decide)).trans h_58
          have h_66 := (fr7 66 (by decide)).trans h_66
          have nA := nA.fr fr7 (by decide) (by decide)
          have nB := nB.fr fr7 (by decide) (by decide)
          have nR := nR.fr fr7 (by decide) (by decide)
          have nN := nN.fr fr7 (by decide) (by decide)
          have nD := nD.fr fr7 (by decide) (by decide)
          have nLo := nLo.fr fr7 (by decide) (by decide)
          have nUp := nUp.fr fr7 (by decide) (by decide)
          have hS := hS.fr fr7 (by decide) (by decide) (by decide)
          have hq := hq.fr fr7 (by decide)
          have hW := hW.fr fr7 (by decide)
          have fr := fr.tr fr7 (by decide)
          refine v_aload_n dX11_write_138 rfl ?_
          refine v_get fX11_291 dX11_write_139 h_47 (by decide) rfl ?_
          exact v_iret dX11_write_142 trivial (Nat.le_of_ble_eq_true rfl) (Nat.le_of_ble_eq_true rfl) ⟨⟨exT s M E, rfl, ⟨_, _, _, _, _, _, _, _, _, _, _, _, h_47, h_48, h_49, ⟨nA, nB, nL, nR, nP, nS, nN, nD, nLo, nUp⟩, h_58, ⟨_, _, hS⟩, hq, h_66, hT, hF, hW⟩, Or.inr (Or.inr ⟨hp0, x1, s, M, E, hl, hM2, Or.inl ⟨c3, rfl⟩⟩)⟩, rfl, fr⟩
        · have hpm : pmag (pt a1) (wd a1) = if q < pt a1 then 2 * q - pt a1 else pt a1 := by
            unfold pmag; rw [eq, e2]
          obtain ⟨j, k, dd, cc, hsc, hrs⟩ := hws c3 hp0 x1 s M E hl hM2
          have fin : ∀ u : Nat, u = pmag (pt a1) (wd a1) → u < 2147483648 → (zV X (fun r9 h' n' => (∃ T, r9 = some (.int (iI (T.length:Nat))) ∧ MD h' wd pt Q qn tf tc T 0 ∧ wrt (pt a1) (wd a1) br T) ∧ n' = n ∧ zFr MOL h h') cX11_write 5 RX11 (some .int) d 0 0 119 [(0, .ref 47), (1, .int (iI (a1:Nat))), (2, .int (iI (bz br)))] [.long (jL (u:Nat))] G2 n 0 0) := by
            intro u eu hu
            refine v_lstore_n (i := 3) (lv' := [(3, .long (jL (u:Nat))), (0, .ref 47), (1, .int (iI (a1:Nat))), (2, .int (iI (bz br)))]) dX11_write_119 rfl (by decide) rfl ?_
            refine v_aload_n dX11_write_120 rfl ?_
            refine v_lload_n dX11_write_121 rfl ?_
            refine v_aload_n dX11_write_122 rfl ?_
            refine v_get fX11_24 dX11_write_123 h_47 (by decide) rfl ?_
            refine v_iload_n dX11_write_126 rfl ?_
            refine w_nald dX11_write_127 h_48 a1 (by omega) (by omega) (by decide) ?_
            refine v_cV (av := [.long (jL (u:Nat)), .int (iI (wd a1 : Nat))]) (st := []) zyX11_putShort lX11_319 h_47 rfl (p_MputShort (d := 7) h_47 hT nA nB nL nR nP nS nN nD nLo nUp hF hW (by omega) (by omega) (by omega) hu ⟨w1.1, w1.2.1⟩ hsc (by rw [eu]; exact hrs) (by decide)) dX11_write_128 rfl rfl (Nat.le_of_ble_eq_true rfl) (by omega) (Nat.le_of_ble_eq_true rfl) (Nat.le_of_ble_eq_true rfl) (Or.inl (fun _ _ _ q => ZN q)) (fun r9 G3 n9 q9 => ?_)
            obtain ⟨rfl, q9n, ⟨va, vb, vc, vd, vf, vg, tn9, fm9, h_47⟩, hT, ⟨nA, nB, nL, nR, nP, nS, nN, nD, nLo, nUp⟩, hF, hW, fr7⟩ := q9
            have q9n := q9n.symm
            subst q9n
            have h_48 := (fr7 48 (by decide)).trans h_48
            have h_49 := (fr7 49 (by decide)).trans h_49
            have h_58 := (fr7 58 (by decide)).trans h_58
            have h_66 := (fr7 66 (by decide)).trans h_66
            have hS := hS.fr fr7 (by decide) (by decide) (by decide)
            have hq := hq.fr fr7 (by decide)
            have fr := fr.tr fr7 (by decide)
            refine v_goto 138 dX11_write_131 (by decide) ?_
            refine v_aload_n dX11_write_138 rfl ?_
            refine v_get fX11_291 dX11_write_139 h_47 (by decide) rfl ?_
            exact v_iret dX11_write_142 trivial (Nat.le_of_ble_eq_true rfl) (Nat.le_of_ble_eq_true rfl) ⟨⟨_, rfl, ⟨_, _, _, _, _, _, _, _, _, _, _, _, h_47, h_48, h_49, ⟨nA, nB, nL, nR, nP, nS, nN, nD, nLo, nUp⟩, h_58, ⟨_, _, hS⟩, hq, h_66, hT, hF, hW⟩, Or.inr (Or.inr ⟨hp0, x1, s, M, E, hl, hM2, Or.inr ⟨c3, j, k, dd, cc, hsc, hrs, rfl⟩⟩)⟩, rfl, fr⟩
          refine v_aload_n dX11_write_75 rfl ?_
          refine v_get fX11_20 dX11_write_76 h_47 (by decide) rfl ?_
          refine v_iload_n dX11_write_79 rfl ?_
          refine w_mald dX11_write_80 h_49 a1 (by omega) (by omega) (by decide) ?_
          refine v_lconst (jL 1) dX11_write_81 rfl ?_
          refine v_aload_n dX11_write_82 rfl ?_
          refine v_get fX11_24 dX11_write_83 h_47 (by decide) rfl ?_
          refine v_iload_n dX11_write_86 rfl ?_
          refine w_nald dX11_write_87 h_48 a1 (by omega) (by omega) (by decide) ?_
          refine v_iconst (iI 1) dX11_write_88 rfl ?_
          refine w_isub dX11_write_89 ?_
          refine w_lshl dX11_write_90 (wd a1 - 1) (2 ^ (wd a1 - 1)) rfl (by omega) (by omega) ?_
          refine w_el (q:Nat) (by rw [ip, eq]) ?_
          refine w_lcmp_ge 104 dX11_write_91 dX11_write_92 (by decide) (by omega) (by omega) (fun c4 => ?_) (fun c4 => ?_)
          · skip
            refine v_lconst (jL 1) dX11_write_104 rfl ?_
            refine v_aload_n dX11_write_105 rfl ?_
            refine v_get fX11_24 dX11_write_106 h_47 (by decide) rfl ?_
            refine v_iload_n dX11_write_109 rfl ?_
            refine w_nald dX11_write_110 h_48 a1 (by omega) (by omega) (by decide) ?_
            refine w_lshl dX11_write_111 (wd a1) (2 ^ (wd a1)) rfl (by omega) (by omega) ?_
            refine w_el (2 * q:Nat) (by rw [ip, e2]) ?_
            refine v_aload_n dX11_write_112 rfl ?_
            refine v_get fX11_20 dX11_write_113 h_47 (by decide) rfl ?_
            refine v_iload_n dX11_write_116 rfl ?_
            refine w_mald dX11_write_117 h_49 a1 (by omega) (by omega) (by decide) ?_
            refine w_lsub dX11_write_118 ?_
            refine w_el (2 * q - pt a1:Nat) (by omega) ?_
            rw [eq] at x1
            exact fin _ (by rw [hpm, if_pos (by omega)]) (by omega)
          · skip
            refine v_aload_n dX11_write_95 rfl ?_
            refine v_get fX11_20 dX11_write_96 h_47 (by decide) rfl ?_
            refine v_iload_n dX11_write_99 rfl ?_
            refine w_mald dX11_write_100 h_49 a1 (by omega) (by omega) (by decide) ?_
            refine v_goto 119 dX11_write_101 (by decide) ?_
            exact fin _ (by rw [hpm, if_neg (by omega)]) (by omega)
      · have hp0 : pt a1 = 0 := by
          rcases hl with z | z | z | z
          · exact z.1
          · omega
          · omega
          · exact absurd z.1 x1
        refine v_aload_n dX11_write_62 rfl ?_
        refine v_bipush (iI 48) dX11_write_63 rfl ?_
        refine v_cV (av := [.int (iI 48)]) (st := []) zyX11_put lX11_297 h_47 rfl (p_Mput (d := 7) (c := 48) h_47 hT (by decide) (by decide)) dX11_write_65 rfl rfl (Nat.le_of_ble_eq_true rfl) (by omega) (Nat.le_of_ble_eq_true rfl) (Nat.le_of_ble_eq_true rfl) (Or.inl (fun _ _ _ q => ZN q)) (fun r9 G3 n9 q9 => ?_)
        obtain ⟨rfl, q9n, h_47, hT, fr7⟩ := q9
        have q9n := q9n.symm
        subst q9n
        have h_48 := (fr7 48 (by decide)).trans h_48
        have h_49 := (fr7 49 (by decide)).trans h_49
        have h_58 := (fr7 58 (by decide)).trans h_58
        have h_66 := (fr7 66 (by decide)).trans h_66
        have nA := nA.fr fr7 (by decide) (by decide)
        have nB := nB.fr fr7 (by decide) (by decide)
        have nL := nL.fr fr7 (by decide) (by decide)
        have nR := nR.fr fr7 (by decide) (by decide)
        have nP := nP.fr fr7 (by decide) (by decide)
        have nS := nS.fr fr7 (by decide) (by decide)
        have nN := nN.fr fr7 (by decide) (by decide)
        have nD := nD.fr fr7 (by decide) (by decide)
        have nLo := nLo.fr fr7 (by decide) (by decide)
        have nUp := nUp.fr fr7 (by decide) (by decide)
        have hS := hS.fr fr7 (by decide) (by decide) (by decide)
        have hq := hq.fr fr7 (by decide)
        have hF := hF.fr fr7 (by decide)
        have hW := hW.fr fr7 (by decide)
        have fr := fr.tr fr7 (by decide)
        refine v_goto 138 dX11_write_68 (by decide) ?_
        refine v_aload_n dX11_write_138 rfl ?_
        refine v_get fX11_291 dX11_write_139 h_47 (by decide) rfl ?_
        exact v_iret dX11_write_142 trivial (Nat.le_of_ble_eq_true rfl) (Nat.le_of_ble_eq_true rfl) ⟨⟨[48], rfl, ⟨_, _, _, _, _, _, _, _, _, _, _, _, h_47, h_48, h_49, ⟨nA, nB, nL, nR, nP, nS, nN, nD, nLo, nUp⟩, h_58, ⟨_, _, hS⟩, hq, h_66, hT, hF, hW⟩, Or.inr (Or.inl ⟨hp0, x1, rfl⟩)⟩, rfl, fr⟩
    · have x1 := of_decide_eq_true x1
      refine v_aload_n dX11_write_27 rfl ?_
      refine v_bipush (iI 78) dX11_write_28 rfl ?_
      refine v_cV (av := [.int (iI 78)]) (st := []) zyX11_put lX11_297 h_47 rfl (p_Mput (d := 7) (c := 78) h_47 hT (by decide) (by decide)) dX11_write_30 rfl rfl (Nat.le_of_ble_eq_true rfl) (by omega) (Nat.le_of_ble_eq_true rfl) (Nat.le_of_ble_eq_true rfl) (Or.inl (fun _ _ _ q => ZN q)) (fun r9 G3 n9 q9 => ?_)
      obtain ⟨rfl, q9n, h_47, hT, fr7⟩ := q9
      have q9n := q9n.symm
      subst q9n
      have h_48 := (fr7 48 (by decide)).trans h_48
      have h_49 := (fr7 49 (by decide)).trans h_49
      have h_58 := (fr7 58 (by decide)).trans h_58
      have h_66 := (fr7 66 (by decide)).trans h_66
      have nA := nA.fr fr7 (by decide) (by decide)
      have nB := nB.fr fr7 (by decide) (by decide)
      have nL := nL.fr fr7 (by decide) (by decide)
      have nR := nR.fr fr7 (by decide) (by decide)
      have nP := nP.fr fr7 (by decide) (by decide)
      have nS := nS.fr fr7 (by decide) (by decide)
      have nN := nN.fr fr7 (by decide) (by decide)
      have nD := nD.fr fr7 (by decide) (by decide)
      have nLo := nLo.fr fr7 (by decide) (by decide)
      have nUp := nUp.fr fr7 (by decide) (by decide)
      have hS := hS.fr fr7 (by decide) (by decide) (by decide)
      have hq := hq.fr fr7 (by decide)
      have hF := hF.fr fr7 (by decide)
      have hW := hW.fr fr7 (by decide)
      have fr := fr.tr fr7 (by decide)
      refine v_aload_n dX11_write_33 rfl ?_
      refine v_bipush (iI 97) dX11_write_34 rfl ?_
      refine v_cV (av := [.int (iI 97)]) (st := []) zyX11_put lX11_297 h_47 rfl (p_Mput (d := 7) (c := 97) h_47 hT (by decide) (by decide)) dX11_write_36 rfl rfl (Nat.le_of_ble_eq_true rfl) (by omega) (Nat.le_of_ble_eq_true rfl) (Nat.le_of_ble_eq_true rfl) (Or.inl (fun _ _ _ q => ZN q)) (fun r9 G4 n9 q9 => ?_)
      obtain ⟨rfl, q9n, h_47, hT, fr6⟩ := q9
      have q9n := q9n.symm
      subst q9n
      have h_48 := (fr6 48 (by decide)).trans h_48
      have h_49 := (fr6 49 (by decide)).trans h_49
      have h_58 := (fr6 58 (by decide)).trans h_58
      have h_66 := (fr6 66 (by decide)).trans h_66
      have nA := nA.fr fr6 (by decide) (by decide)
      have nB := nB.fr fr6 (by decide) (by decide)
      have nL := nL.fr fr6 (by decide) (by decide)
      have nR := nR.fr fr6 (by decide) (by decide)
      have nP := nP.fr fr6 (by decide) (by decide)
      have nS := nS.fr fr6 (by decide) (by decide)
      have nN := nN.fr fr6 (by decide) (by decide)
      have nD := nD.fr fr6 (by decide) (by decide)
      have nLo := nLo.fr fr6 (by decide) (by decide)
      have nUp := nUp.fr fr6 (by decide) (by decide)
      have hS := hS.fr fr6 (by decide) (by decide) (by decide)
      have hq := hq.fr fr6 (by decide)
      have hF := hF.fr fr6 (by decide)
      have hW := hW.fr fr6 (by decide)
      have fr := fr.tr fr6 (by decide)
      refine v_aload_n dX11_write_39 rfl ?_
      refine v_bipush (iI 82) dX11_write_40 rfl ?_
      refine v_cV (av := [.int (iI 82)]) (st := []) zyX11_put lX11_297 h_47 rfl (p_Mput (d := 7) (c := 82) h_47 hT (by decide) (by decide)) dX11_write_42 rfl rfl (Nat.le_of_ble_eq_true rfl) (by omega) (Nat.le_of_ble_eq_true rfl) (Nat.le_of_ble_eq_true rfl) (Or.inl (fun _ _ _ q => ZN q)) (fun r9 G5 n9 q9 => ?_)
      obtain ⟨rfl, q9n, h_47, hT, fr5⟩ := q9
      have q9n := q9n.symm
      subst q9n
      have h_48 := (fr5 48 (by decide)).trans h_48
      have h_49 := (fr5 49 (by decide)).trans h_49
      have h_58 := (fr5 58 (by decide)).trans h_58
      have h_66 := (fr5 66 (by decide)).trans h_66
      have nA := nA.fr fr5 (by decide) (by decide)
      have nB := nB.fr fr5 (by decide) (by decide)
      have nL := nL.fr fr5 (by decide) (by decide)
      have nR := nR.fr fr5 (by decide) (by decide)
      have nP := nP.fr fr5 (by decide) (by decide)
      have nS := nS.fr fr5 (by decide) (by decide)
      have nN := nN.fr fr5 (by decide) (by decide)
      have nD := nD.fr fr5 (by decide) (by decide)
      have nLo := nLo.fr fr5 (by decide) (by decide)
      have nUp := nUp.fr fr5 (by decide) (by decide)
      have hS := hS.fr fr5 (by decide) (by decide) (by decide)
      have hq := hq.fr fr5 (by decide)
      have hF := hF.fr fr5 (by decide)
      have hW := hW.fr fr5 (by decide)
      have fr := fr.tr fr5 (by decide)
      refine v_aload_n dX11_write_45 rfl ?_
      refine v_get fX11_291 dX11_write_46 h_47 (by decide) rfl ?_
      exact v_iret dX11_write_49 trivial (Nat.le_of_ble_eq_true rfl) (Nat.le_of_ble_eq_true rfl) ⟨⟨[78, 97, 82], rfl, ⟨_, _, _, _, _, _, _, _, _, _, _, _, h_47, h_48, h_49, ⟨nA, nB, nL, nR, nP, nS, nN, nD, nLo, nUp⟩, h_58, ⟨_, _, hS⟩, hq, h_66, hT, hF, hW⟩, Or.inl ⟨x1, rfl⟩⟩, rfl, fr⟩
  · exact absurd c1 (by decide)
