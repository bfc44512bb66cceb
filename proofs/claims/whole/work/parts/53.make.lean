/-! The reference's constructor. -/
/-- all that is made ahead of the loops, but the widths -/
def MI (h : zH) : Prop := h 47 = oModel 0 0 0 0 0 0 0 0 0 0 0 0 0 0 0 ∧ h 49 = aM 32 (fun _ => 0) ∧ (ND h 50 51 0 ∧ ND h 52 53 0 ∧ ND h 54 55 0 ∧ ND h 56 57 0 ∧ ND h 62 63 0 ∧ ND h 64 65 0 ∧ ND h 69 70 0 ∧ ND h 71 72 0 ∧ ND h 74 75 0 ∧ ND h 76 77 0) ∧ h 58 = oQarr (fun _ => none) "PositHouseModel$Sum" ∧ SQ h 59 60 61 0 false ∧ h 66 = aN 80 (fun _ => 0) ∧ h 67 = aN 400 (fun _ => 0) ∧ h 68 = aN 200 (fun _ => 0) ∧ h 73 = aN 80 (fun _ => 0)
theorem MI.fr {h h' : zH} (q : MI h) (g : zFr [48] h h') : MI h' := by
  obtain ⟨h_47, h_49, ⟨w50, w52, w54, w56, w62, w64, w69, w71, w74, w76⟩, h_58, w59, h_66, h_67, h_68, h_73⟩ := q
  exact ⟨(g 47 (by decide)).trans h_47, (g 49 (by decide)).trans h_49, ⟨w50.fr g (by decide) (by decide), w52.fr g (by decide) (by decide), w54.fr g (by decide) (by decide), w56.fr g (by decide) (by decide), w62.fr g (by decide) (by decide), w64.fr g (by decide) (by decide), w69.fr g (by decide) (by decide), w71.fr g (by decide) (by decide), w74.fr g (by decide) (by decide), w76.fr g (by decide) (by decide)⟩, (g 58 (by decide)).trans h_58, w59.fr g (by decide) (by decide) (by decide), (g 66 (by decide)).trans h_66, (g 67 (by decide)).trans h_67, (g 68 (by decide)).trans h_68, (g 73 (by decide)).trans h_73⟩
set_option maxHeartbeats 8000000 in
set_option maxRecDepth 100000 in
theorem p_iModel {d : Nat} {h : zH} (h_47 : h 47 = .inr (10, [.int (iI 0), .long (jL 0), .int (iI 0), .null, .null, .int (iI 0), .null, .null, .int (iI 0), .int (iI 0), .null, .null, .null, .null, .null, .null, .int (iI 0), .null, .int (iI 0), .null, .int (iI 0), .int (iI 0), .int (iI 0), .int (iI 0), .int (iI 0), .null, .null, .null, .int (iI 0), .null, .int (iI 0), .null, .null])) (hk : zk h 48) (hd : 6 ≤ d) :
    zM yX11_init cX11_init 2 none d 42 7173 [.ref 47] h 48 (fun r h' n' => r = none ∧ n' = 90 ∧ MD h' wd0 (fun _ => 0) (fun _ => 0) (fun _ => false) (fun _ => 0) 0 [] 0 ∧ zk h' 90 ∧ zFr MOL h h') := by
  refine zM_of zyX11_init rfl (Nat.le_of_ble_eq_true rfl) (fun X hX => ?_)
  have fr : zFr MOL h h := zFr.rf
  have rest : ∀ H : zH, MI H → H 48 = aN 32 wd0 → zk H 78 → zFr MOL h H → (zV X (fun r h' n' => r = none ∧ n' = 90 ∧ MD h' wd0 (fun _ => 0) (fun _ => 0) (fun _ => false) (fun _ => 0) 0 [] 0 ∧ zk h' 90 ∧ zFr MOL h h') cX11_init 2 RX11 none d 42 7173 205 [(0, .ref 47), (1, .int (iI 32))] [] H 78 30 5473) := by
    intro H hI h_48 hk fr
    obtain ⟨h_47, h_49, ⟨w50, w52, w54, w56, w62, w64, w69, w71, w74, w76⟩, h_58, w59, h_66, h_67, h_68, h_73⟩ := hI
    have hf : ∀ j i, (fun _ : Nat => (none : Option Nat)) j = some i → i < 0 := fun _ _ e => by cases e
    refine v_iconst (iI 0) dX11_init_205 rfl ?_
    refine v_istore_n (i := 1) (lv' := [(1, .int (iI 0)), (0, .ref 47)]) dX11_init_206 rfl (by decide) rfl ?_
    refine v_iload_n dX11_init_207 rfl ?_
    refine v_iconst (iI 4) dX11_init_208 rfl ?_
    refine w_icmp_ge 231 dX11_init_209 (by decide) (by decide) (by decide) (fun c0 => ?_) (fun c0 => ?_)
    · exact absurd c0 (by decide)
    · skip
      refine v_aload_n dX11_init_212 rfl ?_
      refine v_get fX11_129 dX11_init_213 h_47 (by decide) rfl ?_
      refine v_iload_n dX11_init_216 rfl ?_
      refine w_ei 0 rfl ?_
      refine v_new nX11_95 dX11_init_217 (Nat.le_of_ble_eq_true rfl) (Nat.le_of_ble_eq_true rfl) hk ⟨by repeat (first | exact zB_n | refine zB_r (by omega) ?_ | refine zB_i ?_ | refine zB_l ?_ | refine zB_z ?_), by repeat (first | exact zB_n | refine zB_r (by omega) ?_ | refine zB_i ?_ | refine zB_l ?_ | refine zB_z ?_)⟩ (fun H1 eH1 => ?_)
      have h_78 : H1 78 = .inr (9, [.null, .int (iI 0), .int (iI (bz false))]) := zf_same eH1
      have h_47 := (zf_ne eH1 (by decide)).trans h_47
      have fr := fr.put eH1 (by simp)
      have hk := zk_psh eH1 hk (zkc_o (by repeat (first | exact zB_n | refine zB_r (by omega) ?_ | refine zB_i ?_ | refine zB_l ?_ | refine zB_z ?_)))
      have fz : zFr [78] _ _ := zFr.put zFr.rf eH1 (List.mem_singleton.mpr rfl)
      have h_48 := (fz 48 (by decide)).trans h_48
      have h_49 := (fz 49 (by decide)).trans h_49
      have w50 := w50.fr fz (by decide) (by decide)
      have w52 := w52.fr fz (by decide) (by decide)
      have w54 := w54.fr fz (by decide) (by decide)
      have w56 := w56.fr fz (by decide) (by decide)
      have w62 := w62.fr fz (by decide) (by decide)
      have w64 := w64.fr fz (by decide) (by decide)
      have w69 := w69.fr fz (by decide) (by decide)
      have w71 := w71.fr fz (by decide) (by decide)
      have w74 := w74.fr fz (by decide) (by decide)
      have w76 := w76.fr fz (by decide) (by decide)
      have h_58 := (fz 58 (by decide)).trans h_58
      have w59 := w59.fr fz (by decide) (by decide) (by decide)
      have h_66 := (fz 66 (by decide)).trans h_66
      have h_67 := (fz 67 (by decide)).trans h_67
      have h_68 := (fz 68 (by decide)).trans h_68
      have h_73 := (fz 73 (by decide)).trans h_73
      refine v_dup dX11_init_220 rfl ?_
      refine v_cIN (av := []) (st := [.ref 78, .int (iI 0), .ref 58]) zyX10_init lX11_133 (p_iSum (d := 4) h_78 (by decide) hk (by decide)) dX11_init_221 rfl rfl (Nat.le_of_ble_eq_true rfl) (by omega) (Nat.le_of_ble_eq_true rfl) (Nat.le_of_ble_eq_true rfl) (Or.inr ⟨by repeat (first | exact zB_n | refine zB_r (by omega) ?_ | refine zB_i ?_ | refine zB_l ?_ | refine zB_z ?_), by repeat (first | exact zB_n | refine zB_r (by omega) ?_ | refine zB_i ?_ | refine zB_l ?_ | refine zB_z ?_)⟩) (fun r9 G1 n9 q9 => ?_)
      obtain ⟨rfl, q9n, w78, hk, fr9⟩ := q9
      have q9n := q9n.symm
      subst q9n
      have h_47 := (fr9 47 (by decide)).trans h_47
      have h_48 := (fr9 48 (by decide)).trans h_48
      have h_49 := (fr9 49 (by decide)).trans h_49
      have w50 := w50.fr fr9 (by decide) (by decide)
      have w52 := w52.fr fr9 (by decide) (by decide)
      have w54 := w54.fr fr9 (by decide) (by decide)
      have w56 := w56.fr fr9 (by decide) (by decide)
      have w62 := w62.fr fr9 (by decide) (by decide)
      have w64 := w64.fr fr9 (by decide) (by decide)
      have w69 := w69.fr fr9 (by decide) (by decide)
      have w71 := w71.fr fr9 (by decide) (by decide)
      have w74 := w74.fr fr9 (by decide) (by decide)
      have w76 := w76.fr fr9 (by decide) (by decide)
      have h_58 := (fr9 58 (by decide)).trans h_58
      have w59 := w59.fr fr9 (by decide) (by decide) (by decide)
      have h_66 := (fr9 66 (by decide)).trans h_66
      have h_67 := (fr9 67 (by decide)).trans h_67
      have h_68 := (fr9 68 (by decide)).trans h_68
      have h_73 := (fr9 73 (by decide)).trans h_73
      have fr := fr.tr fr9 (by decide)
      obtain ⟨o78, -⟩ := id w78
      refine v_aast dX11_init_224 h_58 o78 rfl (iI_in (k := 0) (by decide) (by decide)) (fun J1 eJ1 => ?_)
      have fz : zFr [58] _ _ := zFr.put zFr.rf eJ1 (List.mem_singleton.mpr rfl)
      have h_48 := (fz 48 (by decide)).trans h_48
      have h_49 := (fz 49 (by decide)).trans h_49
      have w50 := w50.fr fz (by decide) (by decide)
      have w52 := w52.fr fz (by decide) (by decide)
      have w54 := w54.fr fz (by decide) (by decide)
      have w56 := w56.fr fz (by decide) (by decide)
      have w62 := w62.fr fz (by decide) (by decide)
      have w64 := w64.fr fz (by decide) (by decide)
      have w69 := w69.fr fz (by decide) (by decide)
      have w71 := w71.fr fz (by decide) (by decide)
      have w74 := w74.fr fz (by decide) (by decide)
      have w76 := w76.fr fz (by decide) (by decide)
      have w59 := w59.fr fz (by decide) (by decide) (by decide)
      have h_66 := (fz 66 (by decide)).trans h_66
      have h_67 := (fz 67 (by decide)).trans h_67
      have h_68 := (fz 68 (by decide)).trans h_68
      have h_73 := (fz 73 (by decide)).trans h_73
      have w78 := w78.fr fz (by decide) (by decide) (by decide)
      have h_47 := (fz 47 (by decide)).trans h_47
      have fr := fr.tr fz (by decide)
      have h_58 : J1 58 = oQarr (va_up (fun _ => none) (iI 0).toNatClampNeg (some 78)) "PositHouseModel$Sum" := zf_same eJ1
      have hf := vu_c (x := (iI 0).toNatClampNeg) (b := 78) hf (by decide)
      have hk := zk_put eJ1 hk (zkc_q (fun j i e => Nat.lt_of_lt_of_le (hf j i e) (by decide)))
      refine w_iinc (lv' := [(1, .int (iI (0 + 1))), (0, .ref 47)]) dX11_init_225 rfl (by decide) rfl ?_
      refine w_sub (lv2 := [(0, .ref 47), (1, .int (iI (0 + 1)))]) [1, 0] rfl ?_
      refine v_goto 207 dX11_init_228 (by decide) ?_
      refine v_iload_n dX11_init_207 rfl ?_
      refine v_iconst (iI 4) dX11_init_208 rfl ?_
      refine w_icmp_ge 231 dX11_init_209 (by decide) (by omega) (by decide) (fun c1 => ?_) (fun c1 => ?_)
      · exact absurd c1 (by decide)
      · skip
        refine v_aload_n dX11_init_212 rfl ?_
        refine v_get fX11_129 dX11_init_213 h_47 (by decide) rfl ?_
        refine v_iload_n dX11_init_216 rfl ?_
        refine w_ei 1 rfl ?_
        refine v_new nX11_95 dX11_init_217 (Nat.le_of_ble_eq_true rfl) (Nat.le_of_ble_eq_true rfl) hk ⟨by repeat (first | exact zB_n | refine zB_r (by omega) ?_ | refine zB_i ?_ | refine zB_l ?_ | refine zB_z ?_), by repeat (first | exact zB_n | refine zB_r (by omega) ?_ | refine zB_i ?_ | refine zB_l ?_ | refine zB_z ?_)⟩ (fun H2 eH2 => ?_)
        have h_81 : H2 81 = .inr (9, [.null, .int (iI 0), .int (iI (bz false))]) := zf_same eH2
        have h_47 := (zf_ne eH2 (by decide)).trans h_47
        have fr := fr.put eH2 (by simp)
        have hk := zk_psh eH2 hk (zkc_o (by repeat (first | exact zB_n | refine zB_r (by omega) ?_ | refine zB_i ?_ | refine zB_l ?_ | refine zB_z ?_)))
        have fz : zFr [81] _ _ := zFr.put zFr.rf eH2 (List.mem_singleton.mpr rfl)
        have h_48 := (fz 48 (by decide)).trans h_48
        have h_49 := (fz 49 (by decide)).trans h_49
        have w50 := w50.fr fz (by decide) (by decide)
        have w52 := w52.fr fz (by decide) (by decide)
        have w54 := w54.fr fz (by decide) (by decide)
        have w56 := w56.fr fz (by decide) (by decide)
        have w62 := w62.fr fz (by decide) (by decide)
        have w64 := w64.fr fz (by decide) (by decide)
        have w69 := w69.fr fz (by decide) (by decide)
        have w71 := w71.fr fz (by decide) (by decide)
        have w74 := w74.fr fz (by decide) (by decide)
        have w76 := w76.fr fz (by decide) (by decide)
        have h_58 := (fz 58 (by decide)).trans h_58
        have w59 := w59.fr fz (by decide) (by decide) (by decide)
        have h_66 := (fz 66 (by decide)).trans h_66
        have h_67 := (fz 67 (by decide)).trans h_67
        have h_68 := (fz 68 (by decide)).trans h_68
        have h_73 := (fz 73 (by decide)).trans h_73
        have w78 := w78.fr fz (by decide) (by decide) (by decide)
        refine v_dup dX11_init_220 rfl ?_
        refine v_cIN (av := []) (st := [.ref 81, .int (iI 1), .ref 58]) zyX10_init lX11_133 (p_iSum (d := 4) h_81 (by decide) hk (by decide)) dX11_init_221 rfl rfl (Nat.le_of_ble_eq_true rfl) (by omega) (Nat.le_of_ble_eq_true rfl) (Nat.le_of_ble_eq_true rfl) (Or.inr ⟨by repeat (first | exact zB_n | refine zB_r (by omega) ?_ | refine zB_i ?_ | refine zB_l ?_ | refine zB_z ?_), by repeat (first | exact zB_n | refine zB_r (by omega) ?_ | refine zB_i ?_ | refine zB_l ?_ | refine zB_z ?_)⟩) (fun r9 G2 n9 q9 => ?_)
        obtain ⟨rfl, q9n, w81, hk, fr9⟩ := q9
        have q9n := q9n.symm
        subst q9n
        have h_47 := (fr9 47 (by decide)).trans h_47
        have h_48 := (fr9 48 (by decide)).trans h_48
        have h_49 := (fr9 49 (by decide)).trans h_49
        have w50 := w50.fr fr9 (by decide) (by decide)
        have w52 := w52.fr fr9 (by decide) (by decide)
        have w54 := w54.fr fr9 (by decide) (by decide)
        have w56 := w56.fr fr9 (by decide) (by decide)
        have w62 := w62.fr fr9 (by decide) (by decide)
        have w64 := w64.fr fr9 (by decide) (by decide)
        have w69 := w69.fr fr9 (by decide) (by decide)
        have w71 := w71.fr fr9 (by decide) (by decide)
        have w74 := w74.fr fr9 (by decide) (by decide)
        have w76 := w76.fr fr9 (by decide) (by decide)
        have h_58 := (fr9 58 (by decide)).trans h_58
        have w59 := w59.fr fr9 (by decide) (by decide) (by decide)
        have h_66 := (fr9 66 (by decide)).trans h_66
        have h_67 := (fr9 67 (by decide)).trans h_67
        have h_68 := (fr9 68 (by decide)).trans h_68
        have h_73 := (fr9 73 (by decide)).trans h_73
        have w78 := w78.fr fr9 (by decide) (by decide) (by decide)
        have fr := fr.tr fr9 (by decide)
        obtain ⟨o81, -⟩ := id w81
        refine v_aast dX11_init_224 h_58 o81 rfl (iI_in (k := 1) (by decide) (by decide)) (fun J2 eJ2 => ?_)
        have fz : zFr [58] _ _ := zFr.put zFr.rf eJ2 (List.mem_singleton.mpr rfl)
        have h_48 := (fz 48 (by decide)).trans h_48
        have h_49 := (fz 49 (by decide)).trans h_49
        have w50 := w50.fr fz (by decide) (by decide)
        have w52 := w52.fr fz (by decide) (by decide)
        have w54 := w54.fr fz (by decide) (by decide)
        have w56 := w56.fr fz (by decide) (by decide)
        have w62 := w62.fr fz (by decide) (by decide)
        have w64 := w64.fr fz (by decide) (by decide)
        have w69 := w69.fr fz (by decide) (by decide)
        have w71 := w71.fr fz (by decide) (by decide)
        have w74 := w74.fr fz (by decide) (by decide)
        have w76 := w76.fr fz (by decide) (by decide)
        have w59 := w59.fr fz (by decide) (by decide) (by decide)
        have h_66 := (fz 66 (by decide)).trans h_66
        have h_67 := (fz 67 (by decide)).trans h_67
        have h_68 := (fz 68 (by decide)).trans h_68
        have h_73 := (fz 73 (by decide)).trans h_73
        have w78 := w78.fr fz (by decide) (by decide) (by decide)
        have w81 := w81.fr fz (by decide) (by decide) (by decide)
        have h_47 := (fz 47 (by decide)).trans h_47
        have fr := fr.tr fz (by decide)
        have h_58 : J2 58 = oQarr (va_up (va_up (fun _ => none) (iI 0).toNatClampNeg (some 78)) (iI 1).toNatClampNeg (some 81)) "PositHouseModel$Sum" := zf_same eJ2
        have hf := vu_c (x := (iI 1).toNatClampNeg) (b := 81) hf (by decide)
        have hk := zk_put eJ2 hk (zkc_q (fun j i e => Nat.lt_of_lt_of_le (hf j i e) (by decide)))
        refine w_iinc (lv' := [(1, .int (iI ((0 + 1) + 1))), (0, .ref 47)]) dX11_init_225 rfl (by decide) rfl ?_
        refine w_sub (lv2 := [(0, .ref 47), (1, .int (iI ((0 + 1) + 1)))]) [1, 0] rfl ?_
        refine v_goto 207 dX11_init_228 (by decide) ?_
        refine v_iload_n dX11_init_207 rfl ?_
        refine v_iconst (iI 4) dX11_init_208 rfl ?_
        refine w_icmp_ge 231 dX11_init_209 (by decide) (by omega) (by decide) (fun c2 => ?_) (fun c2 => ?_)
        · exact absurd c2 (by decide)
        · skip
          refine v_aload_n dX11_init_212 rfl ?_
          refine v_get fX11_129 dX11_init_213 h_47 (by decide) rfl ?_
          refine v_iload_n dX11_init_216 rfl ?_
          refine w_ei 2 rfl ?_
          refine v_new nX11_95 dX11_init_217 (Nat.le_of_ble_eq_true rfl) (Nat.le_of_ble_eq_true rfl) hk ⟨by repeat (first | exact zB_n | refine zB_r (by omega) ?_ | refine zB_i ?_ | refine zB_l ?_ | refine zB_z ?_), by repeat (first | exact zB_n | refine zB_r (by omega) ?_ | refine zB_i ?_ | refine zB_l ?_ | refine zB_z ?_)⟩ (fun H3 eH3 => ?_)
          have h_84 : H3 84 = .inr (9, [.null, .int (iI 0), .int (iI (bz false))]) := zf_same eH3
          have h_47 := (zf_ne eH3 (by decide)).trans h_47
          have fr := fr.put eH3 (by simp)
          have hk := zk_psh eH3 hk (zkc_o (by repeat (first | exact zB_n | refine zB_r (by omega) ?_ | refine zB_i ?_ | refine zB_l ?_ | refine zB_z ?_)))
          have fz : zFr [84] _ _ := zFr.put zFr.rf eH3 (List.mem_singleton.mpr rfl)
          have h_48 := (fz 48 (by decide)).trans h_48
          have h_49 := (fz 49 (by decide)).trans h_49
          have w50 := w50.fr fz (by decide) (by decide)
          have w52 := w52.fr fz (by decide) (by decide)
          have w54 := w54.fr fz (by decide) (by decide)
          have w56 := w56.fr fz (by decide) (by decide)
          have w62 := w62.fr fz (by decide) (by decide)
          have w64 := w64.fr fz (by decide) (by decide)
          have w69 := w69.fr fz (by decide) (by decide)
          have w71 := w71.fr fz (by decide) (by decide)
          have w74 := w74.fr fz (by decide) (by decide)
          have w76 := w76.fr fz (by decide) (by decide)
          have h_58 := (fz 58 (by decide)).trans h_58
          have w59 := w59.fr fz (by decide) (by decide) (by decide)
          have h_66 := (fz 66 (by decide)).trans h_66
          have h_67 := (fz 67 (by decide)).trans h_67
          have h_68 := (fz 68 (by decide)).trans h_68
          have h_73 := (fz 73 (by decide)).trans h_73
          have w78 := w78.fr fz (by decide) (by decide) (by decide)
          have w81 := w81.fr fz (by decide) (by decide) (by decide)
          refine v_dup dX11_init_220 rfl ?_
          refine v_cIN (av := []) (st := [.ref 84, .int (iI 2), .ref 58]) zyX10_init lX11_133 (p_iSum (d := 4) h_84 (by decide) hk (by decide)) dX11_init_221 rfl rfl (Nat.le_of_ble_eq_true rfl) (by omega) (Nat.le_of_ble_eq_true rfl) (Nat.le_of_ble_eq_true rfl) (Or.inr ⟨by repeat (first | exact zB_n | refine zB_r (by omega) ?_ | refine zB_i ?_ | refine zB_l ?_ | refine zB_z ?_), by repeat (first | exact zB_n | refine zB_r (by omega) ?_ | refine zB_i ?_ | refine zB_l ?_ | refine zB_z ?_)⟩) (fun r9 G3 n9 q9 => ?_)
          obtain ⟨rfl, q9n, w84, hk, fr9⟩ := q9
          have q9n := q9n.symm
          subst q9n
          have h_47 := (fr9 47 (by decide)).trans h_47
          have h_48 := (fr9 48 (by decide)).trans h_48
          have h_49 := (fr9 49 (by decide)).trans h_49
          have w50 := w50.fr fr9 (by decide) (by decide)
          have w52 := w52.fr fr9 (by decide) (by decide)
          have w54 := w54.fr fr9 (by decide) (by decide)
          have w56 := w56.fr fr9 (by decide) (by decide)
          have w62 := w62.fr fr9 (by decide) (by decide)
          have w64 := w64.fr fr9 (by decide) (by decide)
          have w69 := w69.fr fr9 (by decide) (by decide)
          have w71 := w71.fr fr9 (by decide) (by decide)
          have w74 := w74.fr fr9 (by decide) (by decide)
          have w76 := w76.fr fr9 (by decide) (by decide)
          have h_58 := (fr9 58 (by decide)).trans h_58
          have w59 := w59.fr fr9 (by decide) (by decide) (by decide)
          have h_66 := (fr9 66 (by decide)).trans h_66
          have h_67 := (fr9 67 (by decide)).trans h_67
          have h_68 := (fr9 68 (by decide)).trans h_68
          have h_73 := (fr9 73 (by decide)).trans h_73
          have w78 := w78.fr fr9 (by decide) (by decide) (by decide)
          have w81 := w81.fr fr9 (by decide) (by decide) (by decide)
          have fr := fr.tr fr9 (by decide)
          obtain ⟨o84, -⟩ := id w84
          refine v_aast dX11_init_224 h_58 o84 rfl (iI_in (k := 2) (by decide) (by decide)) (fun J3 eJ3 => ?_)
          have fz : zFr [58] _ _ := zFr.put zFr.rf eJ3 (List.mem_singleton.mpr rfl)
          have h_48 := (fz 48 (by decide)).trans h_48
          have h_49 := (fz 49 (by decide)).trans h_49
          have w50 := w50.fr fz (by decide) (by decide)
          have w52 := w52.fr fz (by decide) (by decide)
          have w54 := w54.fr fz (by decide) (by decide)
          have w56 := w56.fr fz (by decide) (by decide)
          have w62 := w62.fr fz (by decide) (by decide)
          have w64 := w64.fr fz (by decide) (by decide)
          have w69 := w69.fr fz (by decide) (by decide)
          have w71 := w71.fr fz (by decide) (by decide)
          have w74 := w74.fr fz (by decide) (by decide)
          have w76 := w76.fr fz (by decide) (by decide)
          have w59 := w59.fr fz (by decide) (by decide) (by decide)
          have h_66 := (fz 66 (by decide)).trans h_66
          have h_67 := (fz 67 (by decide)).trans h_67
          have h_68 := (fz 68 (by decide)).trans h_68
          have h_73 := (fz 73 (by decide)).trans h_73
          have w78 := w78.fr fz (by decide) (by decide) (by decide)
          have w81 := w81.fr fz (by decide) (by decide) (by decide)
          have w84 := w84.fr fz (by decide) (by decide) (by decide)
          have h_47 := (fz 47 (by decide)).trans h_47
          have fr := fr.tr fz (by decide)
          have h_58 : J3 58 = oQarr (va_up (va_up (va_up (fun _ => none) (iI 0).toNatClampNeg (some 78)) (iI 1).toNatClampNeg (some 81)) (iI 2).toNatClampNeg (some 84)) "PositHouseModel$Sum" := zf_same eJ3
          have hf := vu_c (x := (iI 2).toNatClampNeg) (b := 84) hf (by decide)
          have hk := zk_put eJ3 hk (zkc_q (fun j i e => Nat.lt_of_lt_of_le (hf j i e) (by decide)))
          refine w_iinc (lv' := [(1, .int (iI (((0 + 1) + 1) + 1))), (0, .ref 47)]) dX11_init_225 rfl (by decide) rfl ?_
          refine w_sub (lv2 := [(0, .ref 47), (1, .int (iI (((0 + 1) + 1) + 1)))]) [1, 0] rfl ?_
          refine v_goto 207 dX11_init_228 (by decide) ?_
          refine v_iload_n dX11_init_207 rfl ?_
          refine v_iconst (iI 4) dX11_init_208 rfl ?_
          refine w_icmp_ge 231 dX11_init_209 (by decide) (by omega) (by decide) (fun c3 => ?_) (fun c3 => ?_)
          · exact absurd c3 (by decide)
          · skip
            refine v_aload_n dX11_init_212 rfl ?_
            refine v_get fX11_129 dX11_init_213 h_47 (by decide) rfl ?_
            refine v_iload_n dX11_init_216 rfl ?_
            refine w_ei 3 rfl ?_
            refine v_new nX11_95 dX11_init_217 (Nat.le_of_ble_eq_true rfl) (Nat.le_of_ble_eq_true rfl) hk ⟨by repeat (first | exact zB_n | refine zB_r (by omega) ?_ | refine zB_i ?_ | refine zB_l ?_ | refine zB_z ?_), by repeat (first | exact zB_n | refine zB_r (by omega) ?_ | refine zB_i ?_ | refine zB_l ?_ | refine zB_z ?_)⟩ (fun H4 eH4 => ?_)
            have h_87 : H4 87 = .inr (9, [.null, .int (iI 0), .int (iI (bz false))]) := zf_same eH4
            have h_47 := (zf_ne eH4 (by decide)).trans h_47
            have fr := fr.put eH4 (by simp)
            have hk := zk_psh eH4 hk (zkc_o (by repeat (first | exact zB_n | refine zB_r (by omega) ?_ | refine zB_i ?_ | refine zB_l ?_ | refine zB_z ?_)))
            have fz : zFr [87] _ _ := zFr.put zFr.rf eH4 (List.mem_singleton.mpr rfl)
            have h_48 := (fz 48 (by decide)).trans h_48
            have h_49 := (fz 49 (by decide)).trans h_49
            have w50 := w50.fr fz (by decide) (by decide)
            have w52 := w52.fr fz (by decide) (by decide)
            have w54 := w54.fr fz (by decide) (by decide)
            have w56 := w56.fr fz (by decide) (by decide)
            have w62 := w62.fr fz (by decide) (by decide)
            have w64 := w64.fr fz (by decide) (by decide)
            have w69 := w69.fr fz (by decide) (by decide)
            have w71 := w71.fr fz (by decide) (by decide)
            have w74 := w74.fr fz (by decide) (by decide)
            have w76 := w76.fr fz (by decide) (by decide)
            have h_58 := (fz 58 (by decide)).trans h_58
            have w59 := w59.fr fz (by decide) (by decide) (by decide)
            have h_66 := (fz 66 (by decide)).trans h_66
            have h_67 := (fz 67 (by decide)).trans h_67
            have h_68 := (fz 68 (by decide)).trans h_68
            have h_73 := (fz 73 (by decide)).trans h_73
            have w78 := w78.fr fz (by decide) (by decide) (by decide)
            have w81 := w81.fr fz (by decide) (by decide) (by decide)
            have w84 := w84.fr fz (by decide) (by decide) (by decide)
            refine v_dup dX11_init_220 rfl ?_
            refine v_cIN (av := []) (st := [.ref 87, .int (iI 3), .ref 58]) zyX10_init lX11_133 (p_iSum (d := 4) h_87 (by decide) hk (by decide)) dX11_init_221 rfl rfl (Nat.le_of_ble_eq_true rfl) (by omega) (Nat.le_of_ble_eq_true rfl) (Nat.le_of_ble_eq_true rfl) (Or.inr ⟨by repeat (first | exact zB_n | refine zB_r (by omega) ?_ | refine zB_i ?_ | refine zB_l ?_ | refine zB_z ?_), by repeat (first | exact zB_n | refine zB_r (by omega) ?_ | refine zB_i ?_ | refine zB_l ?_ | refine zB_z ?_)⟩) (fun r9 G4 n9 q9 => ?_)
            obtain ⟨rfl, q9n, w87, hk, fr9⟩ := q9
            have q9n := q9n.symm
            subst q9n
            have h_47 := (fr9 47 (by decide)).trans h_47
            have h_48 := (fr9 48 (by decide)).trans h_48
            have h_49 := (fr9 49 (by decide)).trans h_49
            have w50 := w50.fr fr9 (by decide) (by decide)
            have w52 := w52.fr fr9 (by decide) (by decide)
            have w54 := w54.fr fr9 (by decide) (by decide)
            have w56 := w56.fr fr9 (by decide) (by decide)
            have w62 := w62.fr fr9 (by decide) (by decide)
            have w64 := w64.fr fr9 (by decide) (by decide)
            have w69 := w69.fr fr9 (by decide) (by decide)
            have w71 := w71.fr fr9 (by decide) (by decide)
            have w74 := w74.fr fr9 (by decide) (by decide)
            have w76 := w76.fr fr9 (by decide) (by decide)
            have h_58 := (fr9 58 (by decide)).trans h_58
            have w59 := w59.fr fr9 (by decide) (by decide) (by decide)
            have h_66 := (fr9 66 (by decide)).trans h_66
            have h_67 := (fr9 67 (by decide)).trans h_67
            have h_68 := (fr9 68 (by decide)).trans h_68
            have h_73 := (fr9 73 (by decide)).trans h_73
            have w78 := w78.fr fr9 (by decide) (by decide) (by decide)
            have w81 := w81.fr fr9 (by decide) (by decide) (by decide)
            have w84 := w84.fr fr9 (by decide) (by decide) (by decide)
            have fr := fr.tr fr9 (by decide)
            obtain ⟨o87, -⟩ := id w87
            refine v_aast dX11_init_224 h_58 o87 rfl (iI_in (k := 3) (by decide) (by decide)) (fun J4 eJ4 => ?_)
            have fz : zFr [58] _ _ := zFr.put zFr.rf eJ4 (List.mem_singleton.mpr rfl)
            have h_48 := (fz 48 (by decide)).trans h_48
            have h_49 := (fz 49 (by decide)).trans h_49
            have w50 := w50.fr fz (by decide) (by decide)
            have w52 := w52.fr fz (by decide) (by decide)
            have w54 := w54.fr fz (by decide) (by decide)
            have w56 := w56.fr fz (by decide) (by decide)
            have w62 := w62.fr fz (by decide) (by decide)
            have w64 := w64.fr fz (by decide) (by decide)
            have w69 := w69.fr fz (by decide) (by decide)
            have w71 := w71.fr fz (by decide) (by decide)
            have w74 := w74.fr fz (by decide) (by decide)
            have w76 := w76.fr fz (by decide) (by decide)
            have w59 := w59.fr fz (by decide) (by decide) (by decide)
            have h_66 := (fz 66 (by decide)).trans h_66
            have h_67 := (fz 67 (by decide)).trans h_67
            have h_68 := (fz 68 (by decide)).trans h_68
            have h_73 := (fz 73 (by decide)).trans h_73
            have w78 := w78.fr fz (by decide) (by decide) (by decide)
            have w81 := w81.fr fz (by decide) (by decide) (by decide)
            have w84 := w84.fr fz (by decide) (by decide) (by decide)
            have w87 := w87.fr fz (by decide) (by decide) (by decide)
            have h_47 := (fz 47 (by decide)).trans h_47
            have fr := fr.tr fz (by decide)
            have h_58 : J4 58 = oQarr (va_up (va_up (va_up (va_up (fun _ => none) (iI 0).toNatClampNeg (some 78)) (iI 1).toNatClampNeg (some 81)) (iI 2).toNatClampNeg (some 84)) (iI 3).toNatClampNeg (some 87)) "PositHouseModel$Sum" := zf_same eJ4
            have hf := vu_c (x := (iI 3).toNatClampNeg) (b := 87) hf (by decide)
            have hk := zk_put eJ4 hk (zkc_q (fun j i e => Nat.lt_of_lt_of_le (hf j i e) (by decide)))
            refine w_iinc (lv' := [(1, .int (iI ((((0 + 1) + 1) + 1) + 1))), (0, .ref 47)]) dX11_init_225 rfl (by decide) rfl ?_
            refine w_sub (lv2 := [(0, .ref 47), (1, .int (iI ((((0 + 1) + 1) + 1) + 1)))]) [1, 0] rfl ?_
            refine v_goto 207 dX11_init_228 (by decide) ?_
            refine v_iload_n dX11_init_207 rfl ?_
            refine v_iconst (iI 4) dX11_init_208 rfl ?_
            refine w_icmp_ge 231 dX11_init_209 (by decide) (by omega) (by decide) (fun c4 => ?_) (fun c4 => ?_)
            · skip
              rw [vu_q 78 3 rfl rfl rfl rfl] at h_58
              exact v_vret dX11_init_231 trivial (Nat.le_of_ble_eq_true rfl) (Nat.le_of_ble_eq_true rfl) ⟨rfl, rfl, ⟨_, _, _, _, _, _, _, _, _, _, _, _, h_47, h_48, h_49, ⟨NS_of w50, NS_of w52, NS_of w54, NS_of w56, NS_of w62, NS_of w64, NS_of w69, NS_of w71, NS_of w74, NS_of w76⟩, h_58, ⟨_, _, w59⟩, (fun k hk9 => match k, hk9 with | 0, _ => w78 | 1, _ => w81 | 2, _ => w84 | 3, _ => w87 | k + 4, q => absurd q (by omega)), h_66, ⟨_, h_67, (fun _ => Nat.zero_lt_succ _), (fun i hi => absurd hi (by simp))⟩, ⟨_, h_68⟩, ⟨_, h_73⟩⟩, hk, fr⟩
            · exact absurd c4 (by decide)
  have loop : ∀ (j i : Nat) (H : zH) (f : Nat → Nat), i + j = 32 → (∀ q, f q = if q < i then 32 else 0) → MI H → H 48 = aN 32 f → zk H 78 → zFr MOL h H → (zV X (fun r h' n' => r = none ∧ n' = 90 ∧ MD h' wd0 (fun _ => 0) (fun _ => 0) (fun _ => false) (fun _ => 0) 0 [] 0 ∧ zk h' 90 ∧ zFr MOL h h') cX11_init 2 RX11 none d 42 7173 185 [(0, .ref 47), (1, .int (iI (i:Nat)))] [] H 78 30 5473) := by
    intro j
    induction j with
    | zero =>
      intro i H f hj hf hI h_48 hk fr
      have hi : i = 32 := by omega
      subst hi
      have ef : f = wd0 := funext hf
      subst ef
      refine v_iload_n dX11_init_185 rfl ?_
      refine v_bipush (iI 32) dX11_init_186 rfl ?_
      refine w_icmp_ge 205 dX11_init_188 (by decide) (by omega) (by decide) (fun c1 => ?_) (fun c1 => ?_)
      · exact rest H hI h_48 hk fr
      · exact absurd c1 (by decide)
    | succ j ih =>
      intro i H f hj hf hI h_48 hk fr
      obtain ⟨h_47, -⟩ := id hI
      refine v_iload_n dX11_init_185 rfl ?_
      refine v_bipush (iI 32) dX11_init_186 rfl ?_
      refine w_icmp_ge 205 dX11_init_188 (by decide) (by omega) (by decide) (fun c1 => ?_) (fun c1 => ?_)
      · exact absurd c1 (by omega)
      · skip
        refine v_aload_n dX11_init_191 rfl ?_
        refine v_get fX11_24 dX11_init_192 h_47 (by decide) rfl ?_
        refine v_iload_n dX11_init_195 rfl ?_
        refine v_bipush (iI 32) dX11_init_196 rfl ?_
        refine w_nast dX11_init_198 h_48 i (by omega) (by omega) (by decide) 32 rfl (fun H1 eH1 => ?_)
        obtain ⟨F1, eF1⟩ : ∃ zz9, zz9 = zup f i 32 := ⟨_, rfl⟩
        rw [← eF1] at eH1
        have h_48 : H1 48 = aN 32 F1 := zf_same eH1
        have h_47 := (zf_ne eH1 (by decide)).trans h_47
        have fr := fr.put eH1 (by simp)
        have hk := zk_put eH1 hk zkc_i
        have fz : zFr [48] _ _ := zFr.put zFr.rf eH1 (List.mem_singleton.mpr rfl)
        refine w_iinc (lv' := [(1, .int (iI ((i:Nat) + 1))), (0, .ref 47)]) dX11_init_199 rfl (by decide) rfl ?_
        refine w_sub (lv2 := [(0, .ref 47), (1, .int (iI ((i:Nat) + 1)))]) [1, 0] rfl ?_
        refine v_goto 185 dX11_init_202 (by decide) ?_
        have e1 : (i : Int) + 1 = ((i + 1 : Nat) : Int) := by omega
        rw [e1]
        exact ih (i + 1) H1 F1 (by omega) (fun q => by rw [eF1]; unfold zup; rw [hf q]; by_cases e : q = i <;> simp [e]; by_cases e2 : q < i <;> simp [e2] <;> omega) (hI.fr fz) h_48 hk fr
  refine v_aload_n dX11_init_0 rfl ?_
  refine v_objInit oX11_122 dX11_init_1 (by omega) (Nat.le_of_ble_eq_true rfl) ?_
  refine v_aload_n dX11_init_4 rfl ?_
  refine v_bipush (iI 32) dX11_init_5 rfl ?_
  refine v_newa (ty := .int) (a0 := (32, .inl (fun _ => iI ((0 : Nat) : Int)))) (N := 32) ac_int rfl (fun _ => rfl) (fun _ => rfl) (by decide) rfl (by decide) dX11_init_7 (Nat.le_of_ble_eq_true rfl) (Nat.le_of_ble_eq_true rfl) hk ⟨by repeat (first | exact zB_n | refine zB_r (by omega) ?_ | refine zB_i ?_ | refine zB_l ?_ | refine zB_z ?_), by repeat (first | exact zB_n | refine zB_r (by omega) ?_ | refine zB_i ?_ | refine zB_l ?_ | refine zB_z ?_)⟩ (fun H1 eH1 => ?_)
  have h_48 : H1 48 = aN 32 (fun _ => 0) := zf_same eH1
  have h_47 := (zf_ne eH1 (by decide)).trans h_47
  have fr := fr.put eH1 (by simp)
  have hk := zk_psh eH1 hk zkc_i
  have fz : zFr [48] _ _ := zFr.put zFr.rf eH1 (List.mem_singleton.mpr rfl)
  refine v_putF (fs' := [.int (iI 0), .long (jL 0), .int (iI 0), .ref 48, .null, .int (iI 0), .null, .null, .int (iI 0), .int (iI 0), .null, .null, .null, .null, .null, .null, .int (iI 0), .null, .int (iI 0), .null, .int (iI 0), .int (iI 0), .int (iI 0), .int (iI 0), .int (iI 0), .null, .null, .null, .int (iI 0), .null, .int (iI 0), .null, .null]) hX ffX11_24 dX11_init_9 h_47 (by decide) (Nat.le_of_ble_eq_true rfl) rfl rfl rfl (fun H2 eH2 => ?_)
  have h_47 : H2 47 = .inr (10, [.int (iI 0), .long (jL 0), .int (iI 0), .ref 48, .null, .int (iI 0), .null, .null, .int (iI 0), .int (iI 0), .null, .null, .null, .null, .null, .null, .int (iI 0), .null, .int (iI 0), .null, .int (iI 0), .int (iI 0), .int (iI 0), .int (iI 0), .int (iI 0), .null, .null, .null, .int (iI 0), .null, .int (iI 0), .null, .null]) := zf_same eH2
  have fr := fr.put eH2 (by simp)
  have hk := zk_put eH2 hk (zkc_o (by repeat (first | exact zB_n | refine zB_r (by omega) ?_ | refine zB_i ?_ | refine zB_l ?_ | refine zB_z ?_)))
  have fz : zFr [47] _ _ := zFr.put zFr.rf eH2 (List.mem_singleton.mpr rfl)
  have h_48 := (fz 48 (by decide)).trans h_48
  refine v_aload_n dX11_init_12 rfl ?_
  refine v_bipush (iI 32) dX11_init_13 rfl ?_
  refine v_newa (ty := .long) (a0 := (32, .inr (.inl (fun _ => jL ((0 : Nat) : Int))))) (N := 32) ac_long rfl (fun _ => rfl) (fun _ => rfl) (by decide) rfl (by decide) dX11_init_15 (Nat.le_of_ble_eq_true rfl) (Nat.le_of_ble_eq_true rfl) hk ⟨by repeat (first | exact zB_n | refine zB_r (by omega) ?_ | refine zB_i ?_ | refine zB_l ?_ | refine zB_z ?_), by repeat (first | exact zB_n | refine zB_r (by omega) ?_ | refine zB_i ?_ | refine zB_l ?_ | refine zB_z ?_)⟩ (fun H3 eH3 => ?_)
  have h_49 : H3 49 = aM 32 (fun _ => 0) := zf_same eH3
  have h_47 := (zf_ne eH3 (by decide)).trans h_47
  have fr := fr.put eH3 (by simp)
  have hk := zk_psh eH3 hk zkc_l
  have fz : zFr [49] _ _ := zFr.put zFr.rf eH3 (List.mem_singleton.mpr rfl)
  have h_48 := (fz 48 (by decide)).trans h_48
  refine v_putF (fs' := [.int (iI 0), .long (jL 0), .int (iI 0), .ref 48, .ref 49, .int (iI 0), .null, .null, .int (iI 0), .int (iI 0), .null, .null, .null, .null, .null, .null, .int (iI 0), .null, .int (iI 0), .null, .int (iI 0), .int (iI 0), .int (iI 0), .int (iI 0), .int (iI 0), .null, .null, .null, .int (iI 0), .null, .int (iI 0), .null, .null]) hX ffX11_20 dX11_init_17 h_47 (by decide) (Nat.le_of_ble_eq_true rfl) rfl rfl rfl (fun H4 eH4 => ?_)
  have h_47 : H4 47 = .inr (10, [.int (iI 0), .long (jL 0), .int (iI 0), .ref 48, .ref 49, .int (iI 0), .null, .null, .int (iI 0), .int (iI 0), .null, .null, .null, .null, .null, .null, .int (iI 0), .null, .int (iI 0), .null, .int (iI 0), .int (iI 0), .int (iI 0), .int (iI 0), .int (iI 0), .null, .null, .null, .int (iI 0), .null, .int (iI 0), .null, .null]) := zf_same eH4
  have fr := fr.put eH4 (by simp)
  have hk := zk_put eH4 hk (zkc_o (by repeat (first | exact zB_n | refine zB_r (by omega) ?_ | refine zB_i ?_ | refine zB_l ?_ | refine zB_z ?_)))
  have fz : zFr [47] _ _ := zFr.put zFr.rf eH4 (List.mem_singleton.mpr rfl)
  have h_48 := (fz 48 (by decide)).trans h_48
  have h_49 := (fz 49 (by decide)).trans h_49
  refine v_aload_n dX11_init_20 rfl ?_
  refine v_new nX11_40 dX11_init_21 (Nat.le_of_ble_eq_true rfl) (Nat.le_of_ble_eq_true rfl) hk ⟨by repeat (first | exact zB_n | refine zB_r (by omega) ?_ | refine zB_i ?_ | refine zB_l ?_ | refine zB_z ?_), by repeat (first | exact zB_n | refine zB_r (by omega) ?_ | refine zB_i ?_ | refine zB_l ?_ | refine zB_z ?_)⟩ (fun H5 eH5 => ?_)
  have h_50 : H5 50 = .inr (8, [.null, .int (iI 0)]) := zf_same eH5
  have h_47 := (zf_ne eH5 (by decide)).trans h_47
  have fr := fr.put eH5 (by simp)
  have hk := zk_psh eH5 hk (zkc_o (by repeat (first | exact zB_n | refine zB_r (by omega) ?_ | refine zB_i ?_ | refine zB_l ?_ | refine zB_z ?_)))
  have fz : zFr [50] _ _ := zFr.put zFr.rf eH5 (List.mem_singleton.mpr rfl)
  have h_48 := (fz 48 (by decide)).trans h_48
  have h_49 := (fz 49 (by decide)).trans h_49
  refine v_dup dX11_init_24 rfl ?_
  refine v_cIN (av := []) (st := [.ref 50, .ref 47]) zyX9_init lX11_128 (p_iNat (d := 4) h_50 (by decide) hk (by decide)) dX11_init_25 rfl rfl (Nat.le_of_ble_eq_true rfl) (by omega) (Nat.le_of_ble_eq_true rfl) (Nat.le_of_ble_eq_true rfl) (Or.inr ⟨by repeat (first | exact zB_n | refine zB_r (by omega) ?_ | refine zB_i ?_ | refine zB_l ?_ | refine zB_z ?_), by repeat (first | exact zB_n | refine zB_r (by omega) ?_ | refine zB_i ?_ | refine zB_l ?_ | refine zB_z ?_)⟩) (fun r9 G1 n9 q9 => ?_)
  obtain ⟨rfl, q9n, w50, hk, fr9⟩ := q9
  have q9n := q9n.symm
  subst q9n
  have h_47 := (fr9 47 (by decide)).trans h_47
  have h_48 := (fr9 48 (by decide)).trans h_48
  have h_49 := (fr9 49 (by decide)).trans h_49
  have fr := fr.tr fr9 (by decide)
  refine v_putF (fs' := [.int (iI 0), .long (jL 0), .int (iI 0), .ref 48, .ref 49, .int (iI 0), .ref 50, .null, .int (iI 0), .int (iI 0), .null, .null, .null, .null, .null, .null, .int (iI 0), .null, .int (iI 0), .null, .int (iI 0), .int (iI 0), .int (iI 0), .int (iI 0), .int (iI 0), .null, .null, .null, .int (iI 0), .null, .int (iI 0), .null, .null]) hX ffX11_35 dX11_init_28 h_47 (by decide) (Nat.le_of_ble_eq_true rfl) rfl rfl rfl (fun H6 eH6 => ?_)
  have h_47 : H6 47 = .inr (10, [.int (iI 0), .long (jL 0), .int (iI 0), .ref 48, .ref 49, .int (iI 0), .ref 50, .null, .int (iI 0), .int (iI 0), .null, .null, .null, .null, .null, .null, .int (iI 0), .null, .int (iI 0), .null, .int (iI 0), .int (iI 0), .int (iI 0), .int (iI 0), .int (iI 0), .null, .null, .null, .int (iI 0), .null, .int (iI 0), .null, .null]) := zf_same eH6
  have fr := fr.put eH6 (by simp)
  have hk := zk_put eH6 hk (zkc_o (by repeat (first | exact zB_n | refine zB_r (by omega) ?_ | refine zB_i ?_ | refine zB_l ?_ | refine zB_z ?_)))
  have fz : zFr [47] _ _ := zFr.put zFr.rf eH6 (List.mem_singleton.mpr rfl)
  have h_48 := (fz 48 (by decide)).trans h_48
  have h_49 := (fz 49 (by decide)).trans h_49
  have w50 := w50.fr fz (by decide) (by decide)
  refine v_aload_n dX11_init_31 rfl ?_
  refine v_new nX11_40 dX11_init_32 (Nat.le_of_ble_eq_true rfl) (Nat.le_of_ble_eq_true rfl) hk ⟨by repeat (first | exact zB_n | refine zB_r (by omega) ?_ | refine zB_i ?_ | refine zB_l ?_ | refine zB_z ?_), by repeat (first | exact zB_n | refine zB_r (by omega) ?_ | refine zB_i ?_ | refine zB_l ?_ | refine zB_z ?_)⟩ (fun H7 eH7 => ?_)
  have h_52 : H7 52 = .inr (8, [.null, .int (iI 0)]) := zf_same eH7
  have h_47 := (zf_ne eH7 (by decide)).trans h_47
  have fr := fr.put eH7 (by simp)
  have hk := zk_psh eH7 hk (zkc_o (by repeat (first | exact zB_n | refine zB_r (by omega) ?_ | refine zB_i ?_ | refine zB_l ?_ | refine zB_z ?_)))
  have fz : zFr [52] _ _ := zFr.put zFr.rf eH7 (List.mem_singleton.mpr rfl)
  have h_48 := (fz 48 (by decide)).trans h_48
  have h_49 := (fz 49 (by decide)).trans h_49
  have w50 := w50.fr fz (by decide) (by decide)
  refine v_dup dX11_init_35 rfl ?_
  refine v_cIN (av := []) (st := [.ref 52, .ref 47]) zyX9_init lX11_128 (p_iNat (d := 4) h_52 (by decide) hk (by decide)) dX11_init_36 rfl rfl (Nat.le_of_ble_eq_true rfl) (by omega) (Nat.le_of_ble_eq_true rfl) (Nat.le_of_ble_eq_true rfl) (Or.inr ⟨by repeat (first | exact zB_n | refine zB_r (by omega) ?_ | refine zB_i ?_ | refine zB_l ?_ | refine zB_z ?_), by repeat (first | exact zB_n | refine zB_r (by omega) ?_ | refine zB_i ?_ | refine zB_l ?_ | refine zB_z ?_)⟩) (fun r9 G2 n9 q9 => ?_)
  obtain ⟨rfl, q9n, w52, hk, fr9⟩ := q9
  have q9n := q9n.symm
  subst q9n
  have h_47 := (fr9 47 (by decide)).trans h_47
  have h_48 := (fr9 48 (by decide)).trans h_48
  have h_49 := (fr9 49 (by decide)).trans h_49
  have w50 := w50.fr fr9 (by decide) (by decide)
  have fr := fr.tr fr9 (by decide)
  refine v_putF (fs' := [.int (iI 0), .long (jL 0), .int (iI 0), .ref 48, .ref 49, .int (iI 0), .ref 50, .ref 52, .int (iI 0), .int (iI 0), .null, .null, .null, .null, .null, .null, .int (iI 0), .null, .int (iI 0), .null, .int (iI 0), .int (iI 0), .int (iI 0), .int (iI 0), .int (iI 0), .null, .null, .null, .int (iI 0), .null, .int (iI 0), .null, .null]) hX ffX11_45 dX11_init_39 h_47 (by decide) (Nat.le_of_ble_eq_true rfl) rfl rfl rfl (fun H8 eH8 => ?_)
  have h_47 : H8 47 = .inr (10, [.int (iI 0), .long (jL 0), .int (iI 0), .ref 48, .ref 49, .int (iI 0), .ref 50, .ref 52, .int (iI 0), .int (iI 0), .null, .null, .null, .null, .null, .null, .int (iI 0), .null, .int (iI 0), .null, .int (iI 0), .int (iI 0), .int (iI 0), .int (iI 0), .int (iI 0), .null, .null, .null, .int (iI 0), .null, .int (iI 0), .null, .null]) := zf_same eH8
  have fr := fr.put eH8 (by simp)
  have hk := zk_put eH8 hk (zkc_o (by repeat (first | exact zB_n | refine zB_r (by omega) ?_ | refine zB_i ?_ | refine zB_l ?_ | refine zB_z ?_)))
  have fz : zFr [47] _ _ := zFr.put zFr.rf eH8 (List.mem_singleton.mpr rfl)
  have h_48 := (fz 48 (by decide)).trans h_48
  have h_49 := (fz 49 (by decide)).trans h_49
  have w50 := w50.fr fz (by decide) (by decide)
  have w52 := w52.fr fz (by decide) (by decide)
  refine v_aload_n dX11_init_42 rfl ?_
  refine v_new nX11_40 dX11_init_43 (Nat.le_of_ble_eq_true rfl) (Nat.le_of_ble_eq_true rfl) hk ⟨by repeat (first | exact zB_n | refine zB_r (by omega) ?_ | refine zB_i ?_ | refine zB_l ?_ | refine zB_z ?_), by repeat (first | exact zB_n | refine zB_r (by omega) ?_ | refine zB_i ?_ | refine zB_l ?_ | refine zB_z ?_)⟩ (fun H9 eH9 => ?_)
  have h_54 : H9 54 = .inr (8, [.null, .int (iI 0)]) := zf_same eH9
  have h_47 := (zf_ne eH9 (by decide)).trans h_47
  have fr := fr.put eH9 (by simp)
  have hk := zk_psh eH9 hk (zkc_o (by repeat (first | exact zB_n | refine zB_r (by omega) ?_ | refine zB_i ?_ | refine zB_l ?_ | refine zB_z ?_)))
  have fz : zFr [54] _ _ := zFr.put zFr.rf eH9 (List.mem_singleton.mpr rfl)
  have h_48 := (fz 48 (by decide)).trans h_48
  have h_49 := (fz 49 (by decide)).trans h_49
  have w50 := w50.fr fz (by decide) (by decide)
  have w52 := w52.fr fz (by decide) (by decide)
  refine v_dup dX11_init_46 rfl ?_
  refine v_cIN (av := []) (st := [.ref 54, .ref 47]) zyX9_init lX11_128 (p_iNat (d := 4) h_54 (by decide) hk (by decide)) dX11_init_47 rfl rfl (Nat.le_of_ble_eq_true rfl) (by omega) (Nat.le_of_ble_eq_true rfl) (Nat.le_of_ble_eq_true rfl) (Or.inr ⟨by repeat (first | exact zB_n | refine zB_r (by omega) ?_ | refine zB_i ?_ | refine zB_l ?_ | refine zB_z ?_), by repeat (first | exact zB_n | refine zB_r (by omega) ?_ | refine zB_i ?_ | refine zB_l ?_ | refine zB_z ?_)⟩) (fun r9 G3 n9 q9 => ?_)
  obtain ⟨rfl, q9n, w54, hk, fr9⟩ := q9
  have q9n := q9n.symm
  subst q9n
  have h_47 := (fr9 47 (by decide)).trans h_47
  have h_48 := (fr9 48 (by decide)).trans h_48
  have h_49 := (fr9 49 (by decide)).trans h_49
  have w50 := w50.fr fr9 (by decide) (by decide)
  have w52 := w52.fr fr9 (by decide) (by decide)
  have fr := fr.tr fr9 (by decide)
  refine v_putF (fs' := [.int (iI 0), .long (jL 0), .int (iI 0), .ref 48, .ref 49, .int (iI 0), .ref 50, .ref 52, .int (iI 0), .int (iI 0), .ref 54, .null, .null, .null, .null, .null, .int (iI 0), .null, .int (iI 0), .null, .int (iI 0), .int (iI 0), .int (iI 0), .int (iI 0), .int (iI 0), .null, .null, .null, .int (iI 0), .null, .int (iI 0), .null, .null]) hX ffX11_54 dX11_init_50 h_47 (by decide) (Nat.le_of_ble_eq_true rfl) rfl rfl rfl (fun H10 eH10 => ?_)
  have h_47 : H10 47 = .inr (10, [.int (iI 0), .long (jL 0), .int (iI 0), .ref 48, .ref 49, .int (iI 0), .ref 50, .ref 52, .int (iI 0), .int (iI 0), .ref 54, .null, .null, .null, .null, .null, .int (iI 0), .null, .int (iI 0), .null, .int (iI 0), .int (iI 0), .int (iI 0), .int (iI 0), .int (iI 0), .null, .null, .null, .int (iI 0), .null, .int (iI 0), .null, .null]) := zf_same eH10
  have fr := fr.put eH10 (by simp)
  have hk := zk_put eH10 hk (zkc_o (by repeat (first | exact zB_n | refine zB_r (by omega) ?_ | refine zB_i ?_ | refine zB_l ?_ | refine zB_z ?_)))
  have fz : zFr [47] _ _ := zFr.put zFr.rf eH10 (List.mem_singleton.mpr rfl)
  have h_48 := (fz 48 (by decide)).trans h_48
  have h_49 := (fz 49 (by decide)).trans h_49
  have w50 := w50.fr fz (by decide) (by decide)
  have w52 := w52.fr fz (by decide) (by decide)
  have w54 := w54.fr fz (by decide) (by decide)
  refine v_aload_n dX11_init_53 rfl ?_
  refine v_new nX11_40 dX11_init_54 (Nat.le_of_ble_eq_true rfl) (Nat.le_of_ble_eq_true rfl) hk ⟨by repeat (first | exact zB_n | refine zB_r (by omega) ?_ | refine zB_i ?_ | refine zB_l ?_ | refine zB_z ?_), by repeat (first | exact zB_n | refine zB_r (by omega) ?_ | refine zB_i ?_ | refine zB_l ?_ | refine zB_z ?_)⟩ (fun H11 eH11 => ?_)
  have h_56 : H11 56 = .inr (8, [.null, .int (iI 0)]) := zf_same eH11
  have h_47 := (zf_ne eH11 (by decide)).trans h_47
  have fr := fr.put eH11 (by simp)
  have hk := zk_psh eH11 hk (zkc_o (by repeat (first | exact zB_n | refine zB_r (by omega) ?_ | refine zB_i ?_ | refine zB_l ?_ | refine zB_z ?_)))
  have fz : zFr [56] _ _ := zFr.put zFr.rf eH11 (List.mem_singleton.mpr rfl)
  have h_48 := (fz 48 (by decide)).trans h_48
  have h_49 := (fz 49 (by decide)).trans h_49
  have w50 := w50.fr fz (by decide) (by decide)
  have w52 := w52.fr fz (by decide) (by decide)
  have w54 := w54.fr fz (by decide) (by decide)
  refine v_dup dX11_init_57 rfl ?_
  refine v_cIN (av := []) (st := [.ref 56, .ref 47]) zyX9_init lX11_128 (p_iNat (d := 4) h_56 (by decide) hk (by decide)) dX11_init_58 rfl rfl (Nat.le_of_ble_eq_true rfl) (by omega) (Nat.le_of_ble_eq_true rfl) (Nat.le_of_ble_eq_true rfl) (Or.inr ⟨by repeat (first | exact zB_n | refine zB_r (by omega) ?_ | refine zB_i ?_ | refine zB_l ?_ | refine zB_z ?_), by repeat (first | exact zB_n | refine zB_r (by omega) ?_ | refine zB_i ?_ | refine zB_l ?_ | refine zB_z ?_)⟩) (fun r9 G4 n9 q9 => ?_)
  obtain ⟨rfl, q9n, w56, hk, fr9⟩ := q9
  have q9n := q9n.symm
  subst q9n
  have h_47 := (fr9 47 (by decide)).trans h_47
  have h_48 := (fr9 48 (by decide)).trans h_48
  have h_49 := (fr9 49 (by decide)).trans h_49
  have w50 := w50.fr fr9 (by decide) (by decide)
  have w52 := w52.fr fr9 (by decide) (by decide)
  have w54 := w54.fr fr9 (by decide) (by decide)
  have fr := fr.tr fr9 (by decide)
  refine v_putF (fs' := [.int (iI 0), .long (jL 0), .int (iI 0), .ref 48, .ref 49, .int (iI 0), .ref 50, .ref 52, .int (iI 0), .int (iI 0), .ref 54, .ref 56, .null, .null, .null, .null, .int (iI 0), .null, .int (iI 0), .null, .int (iI 0), .int (iI 0), .int (iI 0), .int (iI 0), .int (iI 0), .null, .null, .null, .int (iI 0), .null, .int (iI 0), .null, .null]) hX ffX11_61 dX11_init_61 h_47 (by decide) (Nat.le_of_ble_eq_true rfl) rfl rfl rfl (fun H12 eH12 => ?_)
  have h_47 : H12 47 = .inr (10, [.int (iI 0), .long (jL 0), .int (iI 0), .ref 48, .ref 49, .int (iI 0), .ref 50, .ref 52, .int (iI 0), .int (iI 0), .ref 54, .ref 56, .null, .null, .null, .null, .int (iI 0), .null, .int (iI 0), .null, .int (iI 0), .int (iI 0), .int (iI 0), .int (iI 0), .int (iI 0), .null, .null, .null, .int (iI 0), .null, .int (iI 0), .null, .null]) := zf_same eH12
  have fr := fr.put eH12 (by simp)
  have hk := zk_put eH12 hk (zkc_o (by repeat (first | exact zB_n | refine zB_r (by omega) ?_ | refine zB_i ?_ | refine zB_l ?_ | refine zB_z ?_)))
  have fz : zFr [47] _ _ := zFr.put zFr.rf eH12 (List.mem_singleton.mpr rfl)
  have h_48 := (fz 48 (by decide)).trans h_48
  have h_49 := (fz 49 (by decide)).trans h_49
  have w50 := w50.fr fz (by decide) (by decide)
  have w52 := w52.fr fz (by decide) (by decide)
  have w54 := w54.fr fz (by decide) (by decide)
  have w56 := w56.fr fz (by decide) (by decide)
  refine v_aload_n dX11_init_64 rfl ?_
  refine v_iconst (iI 4) dX11_init_65 rfl ?_
  refine v_newq (C1 := "PositHouseModel$Sum") (N := 4) (Or.inr rfl) kq_X11 (by decide) rfl (by decide) dX11_init_66 (Nat.le_of_ble_eq_true rfl) (Nat.le_of_ble_eq_true rfl) hk ⟨by repeat (first | exact zB_n | refine zB_r (by omega) ?_ | refine zB_i ?_ | refine zB_l ?_ | refine zB_z ?_), by repeat (first | exact zB_n | refine zB_r (by omega) ?_ | refine zB_i ?_ | refine zB_l ?_ | refine zB_z ?_)⟩ (fun J1 eJ1 => ?_)
  have fz : zFr [58] _ _ := zFr.put zFr.rf eJ1 (List.mem_singleton.mpr rfl)
  have h_48 := (fz 48 (by decide)).trans h_48
  have h_49 := (fz 49 (by decide)).trans h_49
  have w50 := w50.fr fz (by decide) (by decide)
  have w52 := w52.fr fz (by decide) (by decide)
  have w54 := w54.fr fz (by decide) (by decide)
  have w56 := w56.fr fz (by decide) (by decide)
  have h_47 := (fz 47 (by decide)).trans h_47
  have fr := fr.tr fz (by decide)
  have h_58 : J1 58 = oQarr (fun _ => none) "PositHouseModel$Sum" := zf_same eJ1
  have hk := zk_psh eJ1 hk (zkc_q (fun _ _ e => by cases e))
  refine v_putF (fs' := [.int (iI 0), .long (jL 0), .int (iI 0), .ref 48, .ref 49, .int (iI 0), .ref 50, .ref 52, .int (iI 0), .int (iI 0), .ref 54, .ref 56, .ref 58, .null, .null, .null, .int (iI 0), .null, .int (iI 0), .null, .int (iI 0), .int (iI 0), .int (iI 0), .int (iI 0), .int (iI 0), .null, .null, .null, .int (iI 0), .null, .int (iI 0), .null, .null]) hX ffX11_129 dX11_init_69 h_47 (by decide) (Nat.le_of_ble_eq_true rfl) rfl rfl rfl (fun H13 eH13 => ?_)
  have h_47 : H13 47 = .inr (10, [.int (iI 0), .long (jL 0), .int (iI 0), .ref 48, .ref 49, .int (iI 0), .ref 50, .ref 52, .int (iI 0), .int (iI 0), .ref 54, .ref 56, .ref 58, .null, .null, .null, .int (iI 0), .null, .int (iI 0), .null, .int (iI 0), .int (iI 0), .int (iI 0), .int (iI 0), .int (iI 0), .null, .null, .null, .int (iI 0), .null, .int (iI 0), .null, .null]) := zf_same eH13
  have fr := fr.put eH13 (by simp)
  have hk := zk_put eH13 hk (zkc_o (by repeat (first | exact zB_n | refine zB_r (by omega) ?_ | refine zB_i ?_ | refine zB_l ?_ | refine zB_z ?_)))
  have fz : zFr [47] _ _ := zFr.put zFr.rf eH13 (List.mem_singleton.mpr rfl)
  have h_48 := (fz 48 (by decide)).trans h_48
  have h_49 := (fz 49 (by decide)).trans h_49
  have w50 := w50.fr fz (by decide) (by decide)
  have w52 := w52.fr fz (by decide) (by decide)
  have w54 := w54.fr fz (by decide) (by decide)
  have w56 := w56.fr fz (by decide) (by decide)
  have h_58 := (fz 58 (by decide)).trans h_58
  refine v_aload_n dX11_init_72 rfl ?_
  refine v_new nX11_95 dX11_init_73 (Nat.le_of_ble_eq_true rfl) (Nat.le_of_ble_eq_true rfl) hk ⟨by repeat (first | exact zB_n | refine zB_r (by omega) ?_ | refine zB_i ?_ | refine zB_l ?_ | refine zB_z ?_), by repeat (first | exact zB_n | refine zB_r (by omega) ?_ | refine zB_i ?_ | refine zB_l ?_ | refine zB_z ?_)⟩ (fun H14 eH14 => ?_)
  have h_59 : H14 59 = .inr (9, [.null, .int (iI 0), .int (iI (bz false))]) := zf_same eH14
  have h_47 := (zf_ne eH14 (by decide)).trans h_47
  have fr := fr.put eH14 (by simp)
  have hk := zk_psh eH14 hk (zkc_o (by repeat (first | exact zB_n | refine zB_r (by omega) ?_ | refine zB_i ?_ | refine zB_l ?_ | refine zB_z ?_)))
  have fz : zFr [59] _ _ := zFr.put zFr.rf eH14 (List.mem_singleton.mpr rfl)
  have h_48 := (fz 48 (by decide)).trans h_48
  have h_49 := (fz 49 (by decide)).trans h_49
  have w50 := w50.fr fz (by decide) (by decide)
  have w52 := w52.fr fz (by decide) (by decide)
  have w54 := w54.fr fz (by decide) (by decide)
  have w56 := w56.fr fz (by decide) (by decide)
  have h_58 := (fz 58 (by decide)).trans h_58
  refine v_dup dX11_init_76 rfl ?_
  refine v_cIN (av := []) (st := [.ref 59, .ref 47]) zyX10_init lX11_133 (p_iSum (d := 4) h_59 (by decide) hk (by decide)) dX11_init_77 rfl rfl (Nat.le_of_ble_eq_true rfl) (by omega) (Nat.le_of_ble_eq_true rfl) (Nat.le_of_ble_eq_true rfl) (Or.inr ⟨by repeat (first | exact zB_n | refine zB_r (by omega) ?_ | refine zB_i ?_ | refine zB_l ?_ | refine zB_z ?_), by repeat (first | exact zB_n | refine zB_r (by omega) ?_ | refine zB_i ?_ | refine zB_l ?_ | refine zB_z ?_)⟩) (fun r9 G5 n9 q9 => ?_)
  obtain ⟨rfl, q9n, w59, hk, fr9⟩ := q9
  have q9n := q9n.symm
  subst q9n
  have h_47 := (fr9 47 (by decide)).trans h_47
  have h_48 := (fr9 48 (by decide)).trans h_48
  have h_49 := (fr9 49 (by decide)).trans h_49
  have w50 := w50.fr fr9 (by decide) (by decide)
  have w52 := w52.fr fr9 (by decide) (by decide)
  have w54 := w54.fr fr9 (by decide) (by decide)
  have w56 := w56.fr fr9 (by decide) (by decide)
  have h_58 := (fr9 58 (by decide)).trans h_58
  have fr := fr.tr fr9 (by decide)
  refine v_putF (fs' := [.int (iI 0), .long (jL 0), .int (iI 0), .ref 48, .ref 49, .int (iI 0), .ref 50, .ref 52, .int (iI 0), .int (iI 0), .ref 54, .ref 56, .ref 58, .ref 59, .null, .null, .int (iI 0), .null, .int (iI 0), .null, .int (iI 0), .int (iI 0), .int (iI 0), .int (iI 0), .int (iI 0), .null, .null, .null, .int (iI 0), .null, .int (iI 0), .null, .null]) hX ffX11_134 dX11_init_80 h_47 (by decide) (Nat.le_of_ble_eq_true rfl) rfl rfl rfl (fun H15 eH15 => ?_)
  have h_47 : H15 47 = .inr (10, [.int (iI 0), .long (jL 0), .int (iI 0), .ref 48, .ref 49, .int (iI 0), .ref 50, .ref 52, .int (iI 0), .int (iI 0), .ref 54, .ref 56, .ref 58, .ref 59, .null, .null, .int (iI 0), .null, .int (iI 0), .null, .int (iI 0), .int (iI 0), .int (iI 0), .int (iI 0), .int (iI 0), .null, .null, .null, .int (iI 0), .null, .int (iI 0), .null, .null]) := zf_same eH15
  have fr := fr.put eH15 (by simp)
  have hk := zk_put eH15 hk (zkc_o (by repeat (first | exact zB_n | refine zB_r (by omega) ?_ | refine zB_i ?_ | refine zB_l ?_ | refine zB_z ?_)))
  have fz : zFr [47] _ _ := zFr.put zFr.rf eH15 (List.mem_singleton.mpr rfl)
  have h_48 := (fz 48 (by decide)).trans h_48
  have h_49 := (fz 49 (by decide)).trans h_49
  have w50 := w50.fr fz (by decide) (by decide)
  have w52 := w52.fr fz (by decide) (by decide)
  have w54 := w54.fr fz (by decide) (by decide)
  have w56 := w56.fr fz (by decide) (by decide)
  have h_58 := (fz 58 (by decide)).trans h_58
  have w59 := w59.fr fz (by decide) (by decide) (by decide)
  refine v_aload_n dX11_init_83 rfl ?_
  refine v_new nX11_40 dX11_init_84 (Nat.le_of_ble_eq_true rfl) (Nat.le_of_ble_eq_true rfl) hk ⟨by repeat (first | exact zB_n | refine zB_r (by omega) ?_ | refine zB_i ?_ | refine zB_l ?_ | refine zB_z ?_), by repeat (first | exact zB_n | refine zB_r (by omega) ?_ | refine zB_i ?_ | refine zB_l ?_ | refine zB_z ?_)⟩ (fun H16 eH16 => ?_)
  have h_62 : H16 62 = .inr (8, [.null, .int (iI 0)]) := zf_same eH16
  have h_47 := (zf_ne eH16 (by decide)).trans h_47
  have fr := fr.put eH16 (by simp)
  have hk := zk_psh eH16 hk (zkc_o (by repeat (first | exact zB_n | refine zB_r (by omega) ?_ | refine zB_i ?_ | refine zB_l ?_ | refine zB_z ?_)))
  have fz : zFr [62] _ _ := zFr.put zFr.rf eH16 (List.mem_singleton.mpr rfl)
  have h_48 := (fz 48 (by decide)).trans h_48
  have h_49 := (fz 49 (by decide)).trans h_49
  have w50 := w50.fr fz (by decide) (by decide)
  have w52 := w52.fr fz (by decide) (by decide)
  have w54 := w54.fr fz (by decide) (by decide)
  have w56 := w56.fr fz (by decide) (by decide)
  have h_58 := (fz 58 (by decide)).trans h_58
  have w59 := w59.fr fz (by decide) (by decide) (by decide)
  refine v_dup dX11_init_87 rfl ?_
  refine v_cIN (av := []) (st := [.ref 62, .ref 47]) zyX9_init lX11_128 (p_iNat (d := 4) h_62 (by decide) hk (by decide)) dX11_init_88 rfl rfl (Nat.le_of_ble_eq_true rfl) (by omega) (Nat.le_of_ble_eq_true rfl) (Nat.le_of_ble_eq_true rfl) (Or.inr ⟨by repeat (first | exact zB_n | refine zB_r (by omega) ?_ | refine zB_i ?_ | refine zB_l ?_ | refine zB_z ?_), by repeat (first | exact zB_n | refine zB_r (by omega) ?_ | refine zB_i ?_ | refine zB_l ?_ | refine zB_z ?_)⟩) (fun r9 G6 n9 q9 => ?_)
  obtain ⟨rfl, q9n, w62, hk, fr9⟩ := q9
  have q9n := q9n.symm
  subst q9n
  have h_47 := (fr9 47 (by decide)).trans h_47
  have h_48 := (fr9 48 (by decide)).trans h_48
  have h_49 := (fr9 49 (by decide)).trans h_49
  have w50 := w50.fr fr9 (by decide) (by decide)
  have w52 := w52.fr fr9 (by decide) (by decide)
  have w54 := w54.fr fr9 (by decide) (by decide)
  have w56 := w56.fr fr9 (by decide) (by decide)
  have h_58 := (fr9 58 (by decide)).trans h_58
  have w59 := w59.fr fr9 (by decide) (by decide) (by decide)
  have fr := fr.tr fr9 (by decide)
  refine v_putF (fs' := [.int (iI 0), .long (jL 0), .int (iI 0), .ref 48, .ref 49, .int (iI 0), .ref 50, .ref 52, .int (iI 0), .int (iI 0), .ref 54, .ref 56, .ref 58, .ref 59, .ref 62, .null, .int (iI 0), .null, .int (iI 0), .null, .int (iI 0), .int (iI 0), .int (iI 0), .int (iI 0), .int (iI 0), .null, .null, .null, .int (iI 0), .null, .int (iI 0), .null, .null]) hX ffX11_100 dX11_init_91 h_47 (by decide) (Nat.le_of_ble_eq_true rfl) rfl rfl rfl (fun H17 eH17 => ?_)
  have h_47 : H17 47 = .inr (10, [.int (iI 0), .long (jL 0), .int (iI 0), .ref 48, .ref 49, .int (iI 0), .ref 50, .ref 52, .int (iI 0), .int (iI 0), .ref 54, .ref 56, .ref 58, .ref 59, .ref 62, .null, .int (iI 0), .null, .int (iI 0), .null, .int (iI 0), .int (iI 0), .int (iI 0), .int (iI 0), .int (iI 0), .null, .null, .null, .int (iI 0), .null, .int (iI 0), .null, .null]) := zf_same eH17
  have fr := fr.put eH17 (by simp)
  have hk := zk_put eH17 hk (zkc_o (by repeat (first | exact zB_n | refine zB_r (by omega) ?_ | refine zB_i ?_ | refine zB_l ?_ | refine zB_z ?_)))
  have fz : zFr [47] _ _ := zFr.put zFr.rf eH17 (List.mem_singleton.mpr rfl)
  have h_48 := (fz 48 (by decide)).trans h_48
  have h_49 := (fz 49 (by decide)).trans h_49
  have w50 := w50.fr fz (by decide) (by decide)
  have w52 := w52.fr fz (by decide) (by decide)
  have w54 := w54.fr fz (by decide) (by decide)
  have w56 := w56.fr fz (by decide) (by decide)
  have h_58 := (fz 58 (by decide)).trans h_58
  have w59 := w59.fr fz (by decide) (by decide) (by decide)
  have w62 := w62.fr fz (by decide) (by decide)
  refine v_aload_n dX11_init_94 rfl ?_
  refine v_new nX11_40 dX11_init_95 (Nat.le_of_ble_eq_true rfl) (Nat.le_of_ble_eq_true rfl) hk ⟨by repeat (first | exact zB_n | refine zB_r (by omega) ?_ | refine zB_i ?_ | refine zB_l ?_ | refine zB_z ?_), by repeat (first | exact zB_n | refine zB_r (by omega) ?_ | refine zB_i ?_ | refine zB_l ?_ | refine zB_z ?_)⟩ (fun H18 eH18 => ?_)
  have h_64 : H18 64 = .inr (8, [.null, .int (iI 0)]) := zf_same eH18
  have h_47 := (zf_ne eH18 (by decide)).trans h_47
  have fr := fr.put eH18 (by simp)
  have hk := zk_psh eH18 hk (zkc_o (by repeat (first | exact zB_n | refine zB_r (by omega) ?_ | refine zB_i ?_ | refine zB_l ?_ | refine zB_z ?_)))
  have fz : zFr [64] _ _ := zFr.put zFr.rf eH18 (List.mem_singleton.mpr rfl)
  have h_48 := (fz 48 (by decide)).trans h_48
  have h_49 := (fz 49 (by decide)).trans h_49
  have w50 := w50.fr fz (by decide) (by decide)
  have w52 := w52.fr fz (by decide) (by decide)
  have w54 := w54.fr fz (by decide) (by decide)
  have w56 := w56.fr fz (by decide) (by decide)
  have h_58 := (fz 58 (by decide)).trans h_58
  have w59 := w59.fr fz (by decide) (by decide) (by decide)
  have w62 := w62.fr fz (by decide) (by decide)
  refine v_dup dX11_init_98 rfl ?_
  refine v_cIN (av := []) (st := [.ref 64, .ref 47]) zyX9_init lX11_128 (p_iNat (d := 4) h_64 (by decide) hk (by decide)) dX11_init_99 rfl rfl (Nat.le_of_ble_eq_true rfl) (by omega) (Nat.le_of_ble_eq_true rfl) (Nat.le_of_ble_eq_true rfl) (Or.inr ⟨by repeat (first | exact zB_n | refine zB_r (by omega) ?_ | refine zB_i ?_ | refine zB_l ?_ | refine zB_z ?_), by repeat (first | exact zB_n | refine zB_r (by omega) ?_ | refine zB_i ?_ | refine zB_l ?_ | refine zB_z ?_)⟩) (fun r9 G7 n9 q9 => ?_)
  obtain ⟨rfl, q9n, w64, hk, fr9⟩ := q9
  have q9n := q9n.symm
  subst q9n
  have h_47 := (fr9 47 (by decide)).trans h_47
  have h_48 := (fr9 48 (by decide)).trans h_48
  have h_49 := (fr9 49 (by decide)).trans h_49
  have w50 := w50.fr fr9 (by decide) (by decide)
  have w52 := w52.fr fr9 (by decide) (by decide)
  have w54 := w54.fr fr9 (by decide) (by decide)
  have w56 := w56.fr fr9 (by decide) (by decide)
  have h_58 := (fr9 58 (by decide)).trans h_58
  have w59 := w59.fr fr9 (by decide) (by decide) (by decide)
  have w62 := w62.fr fr9 (by decide) (by decide)
  have fr := fr.tr fr9 (by decide)
  refine v_putF (fs' := [.int (iI 0), .long (jL 0), .int (iI 0), .ref 48, .ref 49, .int (iI 0), .ref 50, .ref 52, .int (iI 0), .int (iI 0), .ref 54, .ref 56, .ref 58, .ref 59, .ref 62, .ref 64, .int (iI 0), .null, .int (iI 0), .null, .int (iI 0), .int (iI 0), .int (iI 0), .int (iI 0), .int (iI 0), .null, .null, .null, .int (iI 0), .null, .int (iI 0), .null, .null]) hX ffX11_106 dX11_init_102 h_47 (by decide) (Nat.le_of_ble_eq_true rfl) rfl rfl rfl (fun H19 eH19 => ?_)
  have h_47 : H19 47 = .inr (10, [.int (iI 0), .long (jL 0), .int (iI 0), .ref 48, .ref 49, .int (iI 0), .ref 50, .ref 52, .int (iI 0), .int (iI 0), .ref 54, .ref 56, .ref 58, .ref 59, .ref 62, .ref 64, .int (iI 0), .null, .int (iI 0), .null, .int (iI 0), .int (iI 0), .int (iI 0), .int (iI 0), .int (iI 0), .null, .null, .null, .int (iI 0), .null, .int (iI 0), .null, .null]) := zf_same eH19
  have fr := fr.put eH19 (by simp)
  have hk := zk_put eH19 hk (zkc_o (by repeat (first | exact zB_n | refine zB_r (by omega) ?_ | refine zB_i ?_ | refine zB_l ?_ | refine zB_z ?_)))
  have fz : zFr [47] _ _ := zFr.put zFr.rf eH19 (List.mem_singleton.mpr rfl)
  have h_48 := (fz 48 (by decide)).trans h_48
  have h_49 := (fz 49 (by decide)).trans h_49
  have w50 := w50.fr fz (by decide) (by decide)
  have w52 := w52.fr fz (by decide) (by decide)
  have w54 := w54.fr fz (by decide) (by decide)
  have w56 := w56.fr fz (by decide) (by decide)
  have h_58 := (fz 58 (by decide)).trans h_58
  have w59 := w59.fr fz (by decide) (by decide) (by decide)
  have w62 := w62.fr fz (by decide) (by decide)
  have w64 := w64.fr fz (by decide) (by decide)
  refine v_aload_n dX11_init_105 rfl ?_
  refine v_bipush (iI 80) dX11_init_106 rfl ?_
  refine v_newa (ty := .int) (a0 := (80, .inl (fun _ => iI ((0 : Nat) : Int)))) (N := 80) ac_int rfl (fun _ => rfl) (fun _ => rfl) (by decide) rfl (by decide) dX11_init_108 (Nat.le_of_ble_eq_true rfl) (Nat.le_of_ble_eq_true rfl) hk ⟨by repeat (first | exact zB_n | refine zB_r (by omega) ?_ | refine zB_i ?_ | refine zB_l ?_ | refine zB_z ?_), by repeat (first | exact zB_n | refine zB_r (by omega) ?_ | refine zB_i ?_ | refine zB_l ?_ | refine zB_z ?_)⟩ (fun H20 eH20 => ?_)
  have h_66 : H20 66 = aN 80 (fun _ => 0) := zf_same eH20
  have h_47 := (zf_ne eH20 (by decide)).trans h_47
  have fr := fr.put eH20 (by simp)
  have hk := zk_psh eH20 hk zkc_i
  have fz : zFr [66] _ _ := zFr.put zFr.rf eH20 (List.mem_singleton.mpr rfl)
  have h_48 := (fz 48 (by decide)).trans h_48
  have h_49 := (fz 49 (by decide)).trans h_49
  have w50 := w50.fr fz (by decide) (by decide)
  have w52 := w52.fr fz (by decide) (by decide)
  have w54 := w54.fr fz (by decide) (by decide)
  have w56 := w56.fr fz (by decide) (by decide)
  have h_58 := (fz 58 (by decide)).trans h_58
  have w59 := w59.fr fz (by decide) (by decide) (by decide)
  have w62 := w62.fr fz (by decide) (by decide)
  have w64 := w64.fr fz (by decide) (by decide)
  refine v_putF (fs' := [.int (iI 0), .long (jL 0), .int (iI 0), .ref 48, .ref 49, .int (iI 0), .ref 50, .ref 52, .int (iI 0), .int (iI 0), .ref 54, .ref 56, .ref 58, .ref 59, .ref 62, .ref 64, .int (iI 0), .ref 66, .int (iI 0), .null, .int (iI 0), .int (iI 0), .int (iI 0), .int (iI 0), .int (iI 0), .null, .null, .null, .int (iI 0), .null, .int (iI 0), .null, .null]) hX ffX11_138 dX11_init_110 h_47 (by decide) (Nat.le_of_ble_eq_true rfl) rfl rfl rfl (fun H21 eH21 => ?_)
  have h_47 : H21 47 = .inr (10, [.int (iI 0), .long (jL 0), .int (iI 0), .ref 48, .ref 49, .int (iI 0), .ref 50, .ref 52, .int (iI 0), .int (iI 0), .ref 54, .ref 56, .ref 58, .ref 59, .ref 62, .ref 64, .int (iI 0), .ref 66, .int (iI 0), .null, .int (iI 0), .int (iI 0), .int (iI 0), .int (iI 0), .int (iI 0), .null, .null, .null, .int (iI 0), .null, .int (iI 0), .null, .null]) := zf_same eH21
  have fr := fr.put eH21 (by simp)
  have hk := zk_put eH21 hk (zkc_o (by repeat (first | exact zB_n | refine zB_r (by omega) ?_ | refine zB_i ?_ | refine zB_l ?_ | refine zB_z ?_)))
  have fz : zFr [47] _ _ := zFr.put zFr.rf eH21 (List.mem_singleton.mpr rfl)
  have h_48 := (fz 48 (by decide)).trans h_48
  have h_49 := (fz 49 (by decide)).trans h_49
  have w50 := w50.fr fz (by decide) (by decide)
  have w52 := w52.fr fz (by decide) (by decide)
  have w54 := w54.fr fz (by decide) (by decide)
  have w56 := w56.fr fz (by decide) (by decide)
  have h_58 := (fz 58 (by decide)).trans h_58
  have w59 := w59.fr fz (by decide) (by decide) (by decide)
  have w62 := w62.fr fz (by decide) (by decide)
  have w64 := w64.fr fz (by decide) (by decide)
  have h_66 := (fz 66 (by decide)).trans h_66
  refine v_aload_n dX11_init_113 rfl ?_
  refine v_sipush (iI 400) dX11_init_114 rfl ?_
  refine v_newa (ty := .int) (a0 := (400, .inl (fun _ => iI ((0 : Nat) : Int)))) (N := 400) ac_int rfl (fun _ => rfl) (fun _ => rfl) (by decide) rfl (by decide) dX11_init_117 (Nat.le_of_ble_eq_true rfl) (Nat.le_of_ble_eq_true rfl) hk ⟨by repeat (first | exact zB_n | refine zB_r (by omega) ?_ | refine zB_i ?_ | refine zB_l ?_ | refine zB_z ?_), by repeat (first | exact zB_n | refine zB_r (by omega) ?_ | refine zB_i ?_ | refine zB_l ?_ | refine zB_z ?_)⟩ (fun H22 eH22 => ?_)
  have h_67 : H22 67 = aN 400 (fun _ => 0) := zf_same eH22
  have h_47 := (zf_ne eH22 (by decide)).trans h_47
  have fr := fr.put eH22 (by simp)
  have hk := zk_psh eH22 hk zkc_i
  have fz : zFr [67] _ _ := zFr.put zFr.rf eH22 (List.mem_singleton.mpr rfl)
  have h_48 := (fz 48 (by decide)).trans h_48
  have h_49 := (fz 49 (by decide)).trans h_49
  have w50 := w50.fr fz (by decide) (by decide)
  have w52 := w52.fr fz (by decide) (by decide)
  have w54 := w54.fr fz (by decide) (by decide)
  have w56 := w56.fr fz (by decide) (by decide)
  have h_58 := (fz 58 (by decide)).trans h_58
  have w59 := w59.fr fz (by decide) (by decide) (by decide)
  have w62 := w62.fr fz (by decide) (by decide)
  have w64 := w64.fr fz (by decide) (by decide)
  have h_66 := (fz 66 (by decide)).trans h_66
  refine v_putF (fs' := [.int (iI 0), .long (jL 0), .int (iI 0), .ref 48, .ref 49, .int (iI 0), .ref 50, .ref 52, .int (iI 0), .int (iI 0), .ref 54, .ref 56, .ref 58, .ref 59, .ref 62, .ref 64, .int (iI 0), .ref 66, .int (iI 0), .ref 67, .int (iI 0), .int (iI 0), .int (iI 0), .int (iI 0), .int (iI 0), .null, .null, .null, .int (iI 0), .null, .int (iI 0), .null, .null]) hX ffX11_141 dX11_init_119 h_47 (by decide) (Nat.le_of_ble_eq_true rfl) rfl rfl rfl (fun H23 eH23 => ?_)
  have h_47 : H23 47 = .inr (10, [.int (iI 0), .long (jL 0), .int (iI 0), .ref 48, .ref 49, .int (iI 0), .ref 50, .ref 52, .int (iI 0), .int (iI 0), .ref 54, .ref 56, .ref 58, .ref 59, .ref 62, .ref 64, .int (iI 0), .ref 66, .int (iI 0), .ref 67, .int (iI 0), .int (iI 0), .int (iI 0), .int (iI 0), .int (iI 0), .null, .null, .null, .int (iI 0), .null, .int (iI 0), .null, .null]) := zf_same eH23
  have fr := fr.put eH23 (by simp)
  have hk := zk_put eH23 hk (zkc_o (by repeat (first | exact zB_n | refine zB_r (by omega) ?_ | refine zB_i ?_ | refine zB_l ?_ | refine zB_z ?_)))
  have fz : zFr [47] _ _ := zFr.put zFr.rf eH23 (List.mem_singleton.mpr rfl)
  have h_48 := (fz 48 (by decide)).trans h_48
  have h_49 := (fz 49 (by decide)).trans h_49
  have w50 := w50.fr fz (by decide) (by decide)
  have w52 := w52.fr fz (by decide) (by decide)
  have w54 := w54.fr fz (by decide) (by decide)
  have w56 := w56.fr fz (by decide) (by decide)
  have h_58 := (fz 58 (by decide)).trans h_58
  have w59 := w59.fr fz (by decide) (by decide) (by decide)
  have w62 := w62.fr fz (by decide) (by decide)
  have w64 := w64.fr fz (by decide) (by decide)
  have h_66 := (fz 66 (by decide)).trans h_66
  have h_67 := (fz 67 (by decide)).trans h_67
  refine v_aload_n dX11_init_122 rfl ?_
  refine v_sipush (iI 200) dX11_init_123 rfl ?_
  refine v_newa (ty := .int) (a0 := (200, .inl (fun _ => iI ((0 : Nat) : Int)))) (N := 200) ac_int rfl (fun _ => rfl) (fun _ => rfl) (by decide) rfl (by decide) dX11_init_126 (Nat.le_of_ble_eq_true rfl) (Nat.le_of_ble_eq_true rfl) hk ⟨by repeat (first | exact zB_n | refine zB_r (by omega) ?_ | refine zB_i ?_ | refine zB_l ?_ | refine zB_z ?_), by repeat (first | exact zB_n | refine zB_r (by omega) ?_ | refine zB_i ?_ | refine zB_l ?_ | refine zB_z ?_)⟩ (fun H24 eH24 => ?_)
  have h_68 : H24 68 = aN 200 (fun _ => 0) := zf_same eH24
  have h_47 := (zf_ne eH24 (by decide)).trans h_47
  have fr := fr.put eH24 (by simp)
  have hk := zk_psh eH24 hk zkc_i
  have fz : zFr [68] _ _ := zFr.put zFr.rf eH24 (List.mem_singleton.mpr rfl)
  have h_48 := (fz 48 (by decide)).trans h_48
  have h_49 := (fz 49 (by decide)).trans h_49
  have w50 := w50.fr fz (by decide) (by decide)
  have w52 := w52.fr fz (by decide) (by decide)
  have w54 := w54.fr fz (by decide) (by decide)
  have w56 := w56.fr fz (by decide) (by decide)
  have h_58 := (fz 58 (by decide)).trans h_58
  have w59 := w59.fr fz (by decide) (by decide) (by decide)
  have w62 := w62.fr fz (by decide) (by decide)
  have w64 := w64.fr fz (by decide) (by decide)
  have h_66 := (fz 66 (by decide)).trans h_66
  have h_67 := (fz 67 (by decide)).trans h_67
  refine v_putF (fs' := [.int (iI 0), .long (jL 0), .int (iI 0), .ref 48, .ref 49, .int (iI 0), .ref 50, .ref 52, .int (iI 0), .int (iI 0), .ref 54, .ref 56, .ref 58, .ref 59, .ref 62, .ref 64, .int (iI 0), .ref 66, .int (iI 0), .ref 67, .int (iI 0), .int (iI 0), .int (iI 0), .int (iI 0), .int (iI 0), .ref 68, .null, .null, .int (iI 0), .null, .int (iI 0), .null, .null]) hX ffX11_144 dX11_init_128 h_47 (by decide) (Nat.le_of_ble_eq_true rfl) rfl rfl rfl (fun H25 eH25 => ?_)
  have h_47 : H25 47 = .inr (10, [.int (iI 0), .long (jL 0), .int (iI 0), .ref 48, .ref 49, .int (iI 0), .ref 50, .ref 52, .int (iI 0), .int (iI 0), .ref 54, .ref 56, .ref 58, .ref 59, .ref 62, .ref 64, .int (iI 0), .ref 66, .int (iI 0), .ref 67, .int (iI 0), .int (iI 0), .int (iI 0), .int (iI 0), .int (iI 0), .ref 68, .null, .null, .int (iI 0), .null, .int (iI 0), .null, .null]) := zf_same eH25
  have fr := fr.put eH25 (by simp)
  have hk := zk_put eH25 hk (zkc_o (by repeat (first | exact zB_n | refine zB_r (by omega) ?_ | refine zB_i ?_ | refine zB_l ?_ | refine zB_z ?_)))
  have fz : zFr [47] _ _ := zFr.put zFr.rf eH25 (List.mem_singleton.mpr rfl)
  have h_48 := (fz 48 (by decide)).trans h_48
  have h_49 := (fz 49 (by decide)).trans h_49
  have w50 := w50.fr fz (by decide) (by decide)
  have w52 := w52.fr fz (by decide) (by decide)
  have w54 := w54.fr fz (by decide) (by decide)
  have w56 := w56.fr fz (by decide) (by decide)
  have h_58 := (fz 58 (by decide)).trans h_58
  have w59 := w59.fr fz (by decide) (by decide) (by decide)
  have w62 := w62.fr fz (by decide) (by decide)
  have w64 := w64.fr fz (by decide) (by decide)
  have h_66 := (fz 66 (by decide)).trans h_66
  have h_67 := (fz 67 (by decide)).trans h_67
  have h_68 := (fz 68 (by decide)).trans h_68
  refine v_aload_n dX11_init_131 rfl ?_
  refine v_new nX11_40 dX11_init_132 (Nat.le_of_ble_eq_true rfl) (Nat.le_of_ble_eq_true rfl) hk ⟨by repeat (first | exact zB_n | refine zB_r (by omega) ?_ | refine zB_i ?_ | refine zB_l ?_ | refine zB_z ?_), by repeat (first | exact zB_n | refine zB_r (by omega) ?_ | refine zB_i ?_ | refine zB_l ?_ | refine zB_z ?_)⟩ (fun H26 eH26 => ?_)
  have h_69 : H26 69 = .inr (8, [.null, .int (iI 0)]) := zf_same eH26
  have h_47 := (zf_ne eH26 (by decide)).trans h_47
  have fr := fr.put eH26 (by simp)
  have hk := zk_psh eH26 hk (zkc_o (by repeat (first | exact zB_n | refine zB_r (by omega) ?_ | refine zB_i ?_ | refine zB_l ?_ | refine zB_z ?_)))
  have fz : zFr [69] _ _ := zFr.put zFr.rf eH26 (List.mem_singleton.mpr rfl)
  have h_48 := (fz 48 (by decide)).trans h_48
  have h_49 := (fz 49 (by decide)).trans h_49
  have w50 := w50.fr fz (by decide) (by decide)
  have w52 := w52.fr fz (by decide) (by decide)
  have w54 := w54.fr fz (by decide) (by decide)
  have w56 := w56.fr fz (by decide) (by decide)
  have h_58 := (fz 58 (by decide)).trans h_58
  have w59 := w59.fr fz (by decide) (by decide) (by decide)
  have w62 := w62.fr fz (by decide) (by decide)
  have w64 := w64.fr fz (by decide) (by decide)
  have h_66 := (fz 66 (by decide)).trans h_66
  have h_67 := (fz 67 (by decide)).trans h_67
  have h_68 := (fz 68 (by decide)).trans h_68
  refine v_dup dX11_init_135 rfl ?_
  refine v_cIN (av := []) (st := [.ref 69, .ref 47]) zyX9_init lX11_128 (p_iNat (d := 4) h_69 (by decide) hk (by decide)) dX11_init_136 rfl rfl (Nat.le_of_ble_eq_true rfl) (by omega) (Nat.le_of_ble_eq_true rfl) (Nat.le_of_ble_eq_true rfl) (Or.inr ⟨by repeat (first | exact zB_n | refine zB_r (by omega) ?_ | refine zB_i ?_ | refine zB_l ?_ | refine zB_z ?_), by repeat (first | exact zB_n | refine zB_r (by omega) ?_ | refine zB_i ?_ | refine zB_l ?_ | refine zB_z ?_)⟩) (fun r9 G8 n9 q9 => ?_)
  obtain ⟨rfl, q9n, w69, hk, fr9⟩ := q9
  have q9n := q9n.symm
  subst q9n
  have h_47 := (fr9 47 (by decide)).trans h_47
  have h_48 := (fr9 48 (by decide)).trans h_48
  have h_49 := (fr9 49 (by decide)).trans h_49
  have w50 := w50.fr fr9 (by decide) (by decide)
  have w52 := w52.fr fr9 (by decide) (by decide)
  have w54 := w54.fr fr9 (by decide) (by decide)
  have w56 := w56.fr fr9 (by decide) (by decide)
  have h_58 := (fr9 58 (by decide)).trans h_58
  have w59 := w59.fr fr9 (by decide) (by decide) (by decide)
  have w62 := w62.fr fr9 (by decide) (by decide)
  have w64 := w64.fr fr9 (by decide) (by decide)
  have h_66 := (fr9 66 (by decide)).trans h_66
  have h_67 := (fr9 67 (by decide)).trans h_67
  have h_68 := (fr9 68 (by decide)).trans h_68
  have fr := fr.tr fr9 (by decide)
  refine v_putF (fs' := [.int (iI 0), .long (jL 0), .int (iI 0), .ref 48, .ref 49, .int (iI 0), .ref 50, .ref 52, .int (iI 0), .int (iI 0), .ref 54, .ref 56, .ref 58, .ref 59, .ref 62, .ref 64, .int (iI 0), .ref 66, .int (iI 0), .ref 67, .int (iI 0), .int (iI 0), .int (iI 0), .int (iI 0), .int (iI 0), .ref 68, .ref 69, .null, .int (iI 0), .null, .int (iI 0), .null, .null]) hX ffX11_147 dX11_init_139 h_47 (by decide) (Nat.le_of_ble_eq_true rfl) rfl rfl rfl (fun H27 eH27 => ?_)
  have h_47 : H27 47 = .inr (10, [.int (iI 0), .long (jL 0), .int (iI 0), .ref 48, .ref 49, .int (iI 0), .ref 50, .ref 52, .int (iI 0), .int (iI 0), .ref 54, .ref 56, .ref 58, .ref 59, .ref 62, .ref 64, .int (iI 0), .ref 66, .int (iI 0), .ref 67, .int (iI 0), .int (iI 0), .int (iI 0), .int (iI 0), .int (iI 0), .ref 68, .ref 69, .null, .int (iI 0), .null, .int (iI 0), .null, .null]) := zf_same eH27
  have fr := fr.put eH27 (by simp)
  have hk := zk_put eH27 hk (zkc_o (by repeat (first | exact zB_n | refine zB_r (by omega) ?_ | refine zB_i ?_ | refine zB_l ?_ | refine zB_z ?_)))
  have fz : zFr [47] _ _ := zFr.put zFr.rf eH27 (List.mem_singleton.mpr rfl)
  have h_48 := (fz 48 (by decide)).trans h_48
  have h_49 := (fz 49 (by decide)).trans h_49
  have w50 := w50.fr fz (by decide) (by decide)
  have w52 := w52.fr fz (by decide) (by decide)
  have w54 := w54.fr fz (by decide) (by decide)
  have w56 := w56.fr fz (by decide) (by decide)
  have h_58 := (fz 58 (by decide)).trans h_58
  have w59 := w59.fr fz (by decide) (by decide) (by decide)
  have w62 := w62.fr fz (by decide) (by decide)
  have w64 := w64.fr fz (by decide) (by decide)
  have h_66 := (fz 66 (by decide)).trans h_66
  have h_67 := (fz 67 (by decide)).trans h_67
  have h_68 := (fz 68 (by decide)).trans h_68
  have w69 := w69.fr fz (by decide) (by decide)
  refine v_aload_n dX11_init_142 rfl ?_
  refine v_new nX11_40 dX11_init_143 (Nat.le_of_ble_eq_true rfl) (Nat.le_of_ble_eq_true rfl) hk ⟨by repeat (first | exact zB_n | refine zB_r (by omega) ?_ | refine zB_i ?_ | refine zB_l ?_ | refine zB_z ?_), by repeat (first | exact zB_n | refine zB_r (by omega) ?_ | refine zB_i ?_ | refine zB_l ?_ | refine zB_z ?_)⟩ (fun H28 eH28 => ?_)
  have h_71 : H28 71 = .inr (8, [.null, .int (iI 0)]) := zf_same eH28
  have h_47 := (zf_ne eH28 (by decide)).trans h_47
  have fr := fr.put eH28 (by simp)
  have hk := zk_psh eH28 hk (zkc_o (by repeat (first | exact zB_n | refine zB_r (by omega) ?_ | refine zB_i ?_ | refine zB_l ?_ | refine zB_z ?_)))
  have fz : zFr [71] _ _ := zFr.put zFr.rf eH28 (List.mem_singleton.mpr rfl)
  have h_48 := (fz 48 (by decide)).trans h_48
  have h_49 := (fz 49 (by decide)).trans h_49
  have w50 := w50.fr fz (by decide) (by decide)
  have w52 := w52.fr fz (by decide) (by decide)
  have w54 := w54.fr fz (by decide) (by decide)
  have w56 := w56.fr fz (by decide) (by decide)
  have h_58 := (fz 58 (by decide)).trans h_58
  have w59 := w59.fr fz (by decide) (by decide) (by decide)
  have w62 := w62.fr fz (by decide) (by decide)
  have w64 := w64.fr fz (by decide) (by decide)
  have h_66 := (fz 66 (by decide)).trans h_66
  have h_67 := (fz 67 (by decide)).trans h_67
  have h_68 := (fz 68 (by decide)).trans h_68
  have w69 := w69.fr fz (by decide) (by decide)
  refine v_dup dX11_init_146 rfl ?_
  refine v_cIN (av := []) (st := [.ref 71, .ref 47]) zyX9_init lX11_128 (p_iNat (d := 4) h_71 (by decide) hk (by decide)) dX11_init_147 rfl rfl (Nat.le_of_ble_eq_true rfl) (by omega) (Nat.le_of_ble_eq_true rfl) (Nat.le_of_ble_eq_true rfl) (Or.inr ⟨by repeat (first | exact zB_n | refine zB_r (by omega) ?_ | refine zB_i ?_ | refine zB_l ?_ | refine zB_z ?_), by repeat (first | exact zB_n | refine zB_r (by omega) ?_ | refine zB_i ?_ | refine zB_l ?_ | refine zB_z ?_)⟩) (fun r9 G9 n9 q9 => ?_)
  obtain ⟨rfl, q9n, w71, hk, fr9⟩ := q9
  have q9n := q9n.symm
  subst q9n
  have h_47 := (fr9 47 (by decide)).trans h_47
  have h_48 := (fr9 48 (by decide)).trans h_48
  have h_49 := (fr9 49 (by decide)).trans h_49
  have w50 := w50.fr fr9 (by decide) (by decide)
  have w52 := w52.fr fr9 (by decide) (by decide)
  have w54 := w54.fr fr9 (by decide) (by decide)
  have w56 := w56.fr fr9 (by decide) (by decide)
  have h_58 := (fr9 58 (by decide)).trans h_58
  have w59 := w59.fr fr9 (by decide) (by decide) (by decide)
  have w62 := w62.fr fr9 (by decide) (by decide)
  have w64 := w64.fr fr9 (by decide) (by decide)
  have h_66 := (fr9 66 (by decide)).trans h_66
  have h_67 := (fr9 67 (by decide)).trans h_67
  have h_68 := (fr9 68 (by decide)).trans h_68
  have w69 := w69.fr fr9 (by decide) (by decide)
  have fr := fr.tr fr9 (by decide)
  refine v_putF (fs' := [.int (iI 0), .long (jL 0), .int (iI 0), .ref 48, .ref 49, .int (iI 0), .ref 50, .ref 52, .int (iI 0), .int (iI 0), .ref 54, .ref 56, .ref 58, .ref 59, .ref 62, .ref 64, .int (iI 0), .ref 66, .int (iI 0), .ref 67, .int (iI 0), .int (iI 0), .int (iI 0), .int (iI 0), .int (iI 0), .ref 68, .ref 69, .ref 71, .int (iI 0), .null, .int (iI 0), .null, .null]) hX ffX11_150 dX11_init_150 h_47 (by decide) (Nat.le_of_ble_eq_true rfl) rfl rfl rfl (fun H29 eH29 => ?_)
  have h_47 : H29 47 = .inr (10, [.int (iI 0), .long (jL 0), .int (iI 0), .ref 48, .ref 49, .int (iI 0), .ref 50, .ref 52, .int (iI 0), .int (iI 0), .ref 54, .ref 56, .ref 58, .ref 59, .ref 62, .ref 64, .int (iI 0), .ref 66, .int (iI 0), .ref 67, .int (iI 0), .int (iI 0), .int (iI 0), .int (iI 0), .int (iI 0), .ref 68, .ref 69, .ref 71, .int (iI 0), .null, .int (iI 0), .null, .null]) := zf_same eH29
  have fr := fr.put eH29 (by simp)
  have hk := zk_put eH29 hk (zkc_o (by repeat (first | exact zB_n | refine zB_r (by omega) ?_ | refine zB_i ?_ | refine zB_l ?_ | refine zB_z ?_)))
  have fz : zFr [47] _ _ := zFr.put zFr.rf eH29 (List.mem_singleton.mpr rfl)
  have h_48 := (fz 48 (by decide)).trans h_48
  have h_49 := (fz 49 (by decide)).trans h_49
  have w50 := w50.fr fz (by decide) (by decide)
  have w52 := w52.fr fz (by decide) (by decide)
  have w54 := w54.fr fz (by decide) (by decide)
  have w56 := w56.fr fz (by decide) (by decide)
  have h_58 := (fz 58 (by decide)).trans h_58
  have w59 := w59.fr fz (by decide) (by decide) (by decide)
  have w62 := w62.fr fz (by decide) (by decide)
  have w64 := w64.fr fz (by decide) (by decide)
  have h_66 := (fz 66 (by decide)).trans h_66
  have h_67 := (fz 67 (by decide)).trans h_67
  have h_68 := (fz 68 (by decide)).trans h_68
  have w69 := w69.fr fz (by decide) (by decide)
  have w71 := w71.fr fz (by decide) (by decide)
  refine v_aload_n dX11_init_153 rfl ?_
  refine v_bipush (iI 80) dX11_init_154 rfl ?_
  refine v_newa (ty := .int) (a0 := (80, .inl (fun _ => iI ((0 : Nat) : Int)))) (N := 80) ac_int rfl (fun _ => rfl) (fun _ => rfl) (by decide) rfl (by decide) dX11_init_156 (Nat.le_of_ble_eq_true rfl) (Nat.le_of_ble_eq_true rfl) hk ⟨by repeat (first | exact zB_n | refine zB_r (by omega) ?_ | refine zB_i ?_ | refine zB_l ?_ | refine zB_z ?_), by repeat (first | exact zB_n | refine zB_r (by omega) ?_ | refine zB_i ?_ | refine zB_l ?_ | refine zB_z ?_)⟩ (fun H30 eH30 => ?_)
  have h_73 : H30 73 = aN 80 (fun _ => 0) := zf_same eH30
  have h_47 := (zf_ne eH30 (by decide)).trans h_47
  have fr := fr.put eH30 (by simp)
  have hk := zk_psh eH30 hk zkc_i
  have fz : zFr [73] _ _ := zFr.put zFr.rf eH30 (List.mem_singleton.mpr rfl)
  have h_48 := (fz 48 (by decide)).trans h_48
  have h_49 := (fz 49 (by decide)).trans h_49
  have w50 := w50.fr fz (by decide) (by decide)
  have w52 := w52.fr fz (by decide) (by decide)
  have w54 := w54.fr fz (by decide) (by decide)
  have w56 := w56.fr fz (by decide) (by decide)
  have h_58 := (fz 58 (by decide)).trans h_58
  have w59 := w59.fr fz (by decide) (by decide) (by decide)
  have w62 := w62.fr fz (by decide) (by decide)
  have w64 := w64.fr fz (by decide) (by decide)
  have h_66 := (fz 66 (by decide)).trans h_66
  have h_67 := (fz 67 (by decide)).trans h_67
  have h_68 := (fz 68 (by decide)).trans h_68
  have w69 := w69.fr fz (by decide) (by decide)
  have w71 := w71.fr fz (by decide) (by decide)
  refine v_putF (fs' := [.int (iI 0), .long (jL 0), .int (iI 0), .ref 48, .ref 49, .int (iI 0), .ref 50, .ref 52, .int (iI 0), .int (iI 0), .ref 54, .ref 56, .ref 58, .ref 59, .ref 62, .ref 64, .int (iI 0), .ref 66, .int (iI 0), .ref 67, .int (iI 0), .int (iI 0), .int (iI 0), .int (iI 0), .int (iI 0), .ref 68, .ref 69, .ref 71, .int (iI 0), .ref 73, .int (iI 0), .null, .null]) hX ffX11_153 dX11_init_158 h_47 (by decide) (Nat.le_of_ble_eq_true rfl) rfl rfl rfl (fun H31 eH31 => ?_)
  have h_47 : H31 47 = .inr (10, [.int (iI 0), .long (jL 0), .int (iI 0), .ref 48, .ref 49, .int (iI 0), .ref 50, .ref 52, .int (iI 0), .int (iI 0), .ref 54, .ref 56, .ref 58, .ref 59, .ref 62, .ref 64, .int (iI 0), .ref 66, .int (iI 0), .ref 67, .int (iI 0), .int (iI 0), .int (iI 0), .int (iI 0), .int (iI 0), .ref 68, .ref 69, .ref 71, .int (iI 0), .ref 73, .int (iI 0), .null, .null]) := zf_same eH31
  have fr := fr.put eH31 (by simp)
  have hk := zk_put eH31 hk (zkc_o (by repeat (first | exact zB_n | refine zB_r (by omega) ?_ | refine zB_i ?_ | refine zB_l ?_ | refine zB_z ?_)))
  have fz : zFr [47] _ _ := zFr.put zFr.rf eH31 (List.mem_singleton.mpr rfl)
  have h_48 := (fz 48 (by decide)).trans h_48
  have h_49 := (fz 49 (by decide)).trans h_49
  have w50 := w50.fr fz (by decide) (by decide)
  have w52 := w52.fr fz (by decide) (by decide)
  have w54 := w54.fr fz (by decide) (by decide)
  have w56 := w56.fr fz (by decide) (by decide)
  have h_58 := (fz 58 (by decide)).trans h_58
  have w59 := w59.fr fz (by decide) (by decide) (by decide)
  have w62 := w62.fr fz (by decide) (by decide)
  have w64 := w64.fr fz (by decide) (by decide)
  have h_66 := (fz 66 (by decide)).trans h_66
  have h_67 := (fz 67 (by decide)).trans h_67
  have h_68 := (fz 68 (by decide)).trans h_68
  have w69 := w69.fr fz (by decide) (by decide)
  have w71 := w71.fr fz (by decide) (by decide)
  have h_73 := (fz 73 (by decide)).trans h_73
  refine v_aload_n dX11_init_161 rfl ?_
  refine v_new nX11_40 dX11_init_162 (Nat.le_of_ble_eq_true rfl) (Nat.le_of_ble_eq_true rfl) hk ⟨by repeat (first | exact zB_n | refine zB_r (by omega) ?_ | refine zB_i ?_ | refine zB_l ?_ | refine zB_z ?_), by repeat (first | exact zB_n | refine zB_r (by omega) ?_ | refine zB_i ?_ | refine zB_l ?_ | refine zB_z ?_)⟩ (fun H32 eH32 => ?_)
  have h_74 : H32 74 = .inr (8, [.null, .int (iI 0)]) := zf_same eH32
  have h_47 := (zf_ne eH32 (by decide)).trans h_47
  have fr := fr.put eH32 (by simp)
  have hk := zk_psh eH32 hk (zkc_o (by repeat (first | exact zB_n | refine zB_r (by omega) ?_ | refine zB_i ?_ | refine zB_l ?_ | refine zB_z ?_)))
  have fz : zFr [74] _ _ := zFr.put zFr.rf eH32 (List.mem_singleton.mpr rfl)
  have h_48 := (fz 48 (by decide)).trans h_48
  have h_49 := (fz 49 (by decide)).trans h_49
  have w50 := w50.fr fz (by decide) (by decide)
  have w52 := w52.fr fz (by decide) (by decide)
  have w54 := w54.fr fz (by decide) (by decide)
  have w56 := w56.fr fz (by decide) (by decide)
  have h_58 := (fz 58 (by decide)).trans h_58
  have w59 := w59.fr fz (by decide) (by decide) (by decide)
  have w62 := w62.fr fz (by decide) (by decide)
  have w64 := w64.fr fz (by decide) (by decide)
  have h_66 := (fz 66 (by decide)).trans h_66
  have h_67 := (fz 67 (by decide)).trans h_67
  have h_68 := (fz 68 (by decide)).trans h_68
  have w69 := w69.fr fz (by decide) (by decide)
  have w71 := w71.fr fz (by decide) (by decide)
  have h_73 := (fz 73 (by decide)).trans h_73
  refine v_dup dX11_init_165 rfl ?_
  refine v_cIN (av := []) (st := [.ref 74, .ref 47]) zyX9_init lX11_128 (p_iNat (d := 4) h_74 (by decide) hk (by decide)) dX11_init_166 rfl rfl (Nat.le_of_ble_eq_true rfl) (by omega) (Nat.le_of_ble_eq_true rfl) (Nat.le_of_ble_eq_true rfl) (Or.inr ⟨by repeat (first | exact zB_n | refine zB_r (by omega) ?_ | refine zB_i ?_ | refine zB_l ?_ | refine zB_z ?_), by repeat (first | exact zB_n | refine zB_r (by omega) ?_ | refine zB_i ?_ | refine zB_l ?_ | refine zB_z ?_)⟩) (fun r9 G10 n9 q9 => ?_)
  obtain ⟨rfl, q9n, w74, hk, fr9⟩ := q9
  have q9n := q9n.symm
  subst q9n
  have h_47 := (fr9 47 (by decide)).trans h_47
  have h_48 := (fr9 48 (by decide)).trans h_48
  have h_49 := (fr9 49 (by decide)).trans h_49
  have w50 := w50.fr fr9 (by decide) (by decide)
  have w52 := w52.fr fr9 (by decide) (by decide)
  have w54 := w54.fr fr9 (by decide) (by decide)
  have w56 := w56.fr fr9 (by decide) (by decide)
  have h_58 := (fr9 58 (by decide)).trans h_58
  have w59 := w59.fr fr9 (by decide) (by decide) (by decide)
  have w62 := w62.fr fr9 (by decide) (by decide)
  have w64 := w64.fr fr9 (by decide) (by decide)
  have h_66 := (fr9 66 (by decide)).trans h_66
  have h_67 := (fr9 67 (by decide)).trans h_67
  have h_68 := (fr9 68 (by decide)).trans h_68
  have w69 := w69.fr fr9 (by decide) (by decide)
  have w71 := w71.fr fr9 (by decide) (by decide)
  have h_73 := (fr9 73 (by decide)).trans h_73
  have fr := fr.tr fr9 (by decide)
  refine v_putF (fs' := [.int (iI 0), .long (jL 0), .int (iI 0), .ref 48, .ref 49, .int (iI 0), .ref 50, .ref 52, .int (iI 0), .int (iI 0), .ref 54, .ref 56, .ref 58, .ref 59, .ref 62, .ref 64, .int (iI 0), .ref 66, .int (iI 0), .ref 67, .int (iI 0), .int (iI 0), .int (iI 0), .int (iI 0), .int (iI 0), .ref 68, .ref 69, .ref 71, .int (iI 0), .ref 73, .int (iI 0), .ref 74, .null]) hX ffX11_156 dX11_init_169 h_47 (by decide) (Nat.le_of_ble_eq_true rfl) rfl rfl rfl (fun H33 eH33 => ?_)
  have h_47 : H33 47 = .inr (10, [.int (iI 0), .long (jL 0), .int (iI 0), .ref 48, .ref 49, .int (iI 0), .ref 50, .ref 52, .int (iI 0), .int (iI 0), .ref 54, .ref 56, .ref 58, .ref 59, .ref 62, .ref 64, .int (iI 0), .ref 66, .int (iI 0), .ref 67, .int (iI 0), .int (iI 0), .int (iI 0), .int (iI 0), .int (iI 0), .ref 68, .ref 69, .ref 71, .int (iI 0), .ref 73, .int (iI 0), .ref 74, .null]) := zf_same eH33
  have fr := fr.put eH33 (by simp)
  have hk := zk_put eH33 hk (zkc_o (by repeat (first | exact zB_n | refine zB_r (by omega) ?_ | refine zB_i ?_ | refine zB_l ?_ | refine zB_z ?_)))
  have fz : zFr [47] _ _ := zFr.put zFr.rf eH33 (List.mem_singleton.mpr rfl)
  have h_48 := (fz 48 (by decide)).trans h_48
  have h_49 := (fz 49 (by decide)).trans h_49
  have w50 := w50.fr fz (by decide) (by decide)
  have w52 := w52.fr fz (by decide) (by decide)
  have w54 := w54.fr fz (by decide) (by decide)
  have w56 := w56.fr fz (by decide) (by decide)
  have h_58 := (fz 58 (by decide)).trans h_58
  have w59 := w59.fr fz (by decide) (by decide) (by decide)
  have w62 := w62.fr fz (by decide) (by decide)
  have w64 := w64.fr fz (by decide) (by decide)
  have h_66 := (fz 66 (by decide)).trans h_66
  have h_67 := (fz 67 (by decide)).trans h_67
  have h_68 := (fz 68 (by decide)).trans h_68
  have w69 := w69.fr fz (by decide) (by decide)
  have w71 := w71.fr fz (by decide) (by decide)
  have h_73 := (fz 73 (by decide)).trans h_73
  have w74 := w74.fr fz (by decide) (by decide)
  refine v_aload_n dX11_init_172 rfl ?_
  refine v_new nX11_40 dX11_init_173 (Nat.le_of_ble_eq_true rfl) (Nat.le_of_ble_eq_true rfl) hk ⟨by repeat (first | exact zB_n | refine zB_r (by omega) ?_ | refine zB_i ?_ | refine zB_l ?_ | refine zB_z ?_), by repeat (first | exact zB_n | refine zB_r (by omega) ?_ | refine zB_i ?_ | refine zB_l ?_ | refine zB_z ?_)⟩ (fun H34 eH34 => ?_)
  have h_76 : H34 76 = .inr (8, [.null, .int (iI 0)]) := zf_same eH34
  have h_47 := (zf_ne eH34 (by decide)).trans h_47
  have fr := fr.put eH34 (by simp)
  have hk := zk_psh eH34 hk (zkc_o (by repeat (first | exact zB_n | refine zB_r (by omega) ?_ | refine zB_i ?_ | refine zB_l ?_ | refine zB_z ?_)))
  have fz : zFr [76] _ _ := zFr.put zFr.rf eH34 (List.mem_singleton.mpr rfl)
  have h_48 := (fz 48 (by decide)).trans h_48
  have h_49 := (fz 49 (by decide)).trans h_49
  have w50 := w50.fr fz (by decide) (by decide)
  have w52 := w52.fr fz (by decide) (by decide)
  have w54 := w54.fr fz (by decide) (by decide)
  have w56 := w56.fr fz (by decide) (by decide)
  have h_58 := (fz 58 (by decide)).trans h_58
  have w59 := w59.fr fz (by decide) (by decide) (by decide)
  have w62 := w62.fr fz (by decide) (by decide)
  have w64 := w64.fr fz (by decide) (by decide)
  have h_66 := (fz 66 (by decide)).trans h_66
  have h_67 := (fz 67 (by decide)).trans h_67
  have h_68 := (fz 68 (by decide)).trans h_68
  have w69 := w69.fr fz (by decide) (by decide)
  have w71 := w71.fr fz (by decide) (by decide)
  have h_73 := (fz 73 (by decide)).trans h_73
  have w74 := w74.fr fz (by decide) (by decide)
  refine v_dup dX11_init_176 rfl ?_
  refine v_cIN (av := []) (st := [.ref 76, .ref 47]) zyX9_init lX11_128 (p_iNat (d := 4) h_76 (by decide) hk (by decide)) dX11_init_177 rfl rfl (Nat.le_of_ble_eq_true rfl) (by omega) (Nat.le_of_ble_eq_true rfl) (Nat.le_of_ble_eq_true rfl) (Or.inr ⟨by repeat (first | exact zB_n | refine zB_r (by omega) ?_ | refine zB_i ?_ | refine zB_l ?_ | refine zB_z ?_), by repeat (first | exact zB_n | refine zB_r (by omega) ?_ | refine zB_i ?_ | refine zB_l ?_ | refine zB_z ?_)⟩) (fun r9 G11 n9 q9 => ?_)
  obtain ⟨rfl, q9n, w76, hk, fr9⟩ := q9
  have q9n := q9n.symm
  subst q9n
  have h_47 := (fr9 47 (by decide)).trans h_47
  have h_48 := (fr9 48 (by decide)).trans h_48
  have h_49 := (fr9 49 (by decide)).trans h_49
  have w50 := w50.fr fr9 (by decide) (by decide)
  have w52 := w52.fr fr9 (by decide) (by decide)
  have w54 := w54.fr fr9 (by decide) (by decide)
  have w56 := w56.fr fr9 (by decide) (by decide)
  have h_58 := (fr9 58 (by decide)).trans h_58
  have w59 := w59.fr fr9 (by decide) (by decide) (by decide)
  have w62 := w62.fr fr9 (by decide) (by decide)
  have w64 := w64.fr fr9 (by decide) (by decide)
  have h_66 := (fr9 66 (by decide)).trans h_66
  have h_67 := (fr9 67 (by decide)).trans h_67
  have h_68 := (fr9 68 (by decide)).trans h_68
  have w69 := w69.fr fr9 (by decide) (by decide)
  have w71 := w71.fr fr9 (by decide) (by decide)
  have h_73 := (fr9 73 (by decide)).trans h_73
  have w74 := w74.fr fr9 (by decide) (by decide)
  have fr := fr.tr fr9 (by decide)
  refine v_putF (fs' := [.int (iI 0), .long (jL 0), .int (iI 0), .ref 48, .ref 49, .int (iI 0), .ref 50, .ref 52, .int (iI 0), .int (iI 0), .ref 54, .ref 56, .ref 58, .ref 59, .ref 62, .ref 64, .int (iI 0), .ref 66, .int (iI 0), .ref 67, .int (iI 0), .int (iI 0), .int (iI 0), .int (iI 0), .int (iI 0), .ref 68, .ref 69, .ref 71, .int (iI 0), .ref 73, .int (iI 0), .ref 74, .ref 76]) hX ffX11_159 dX11_init_180 h_47 (by decide) (Nat.le_of_ble_eq_true rfl) rfl rfl rfl (fun H35 eH35 => ?_)
  have h_47 : H35 47 = oModel 0 0 0 0 0 0 0 0 0 0 0 0 0 0 0 := zf_same eH35
  have fr := fr.put eH35 (by simp)
  have hk := zk_put eH35 hk (zkc_o (by repeat (first | exact zB_n | refine zB_r (by omega) ?_ | refine zB_i ?_ | refine zB_l ?_ | refine zB_z ?_)))
  have fz : zFr [47] _ _ := zFr.put zFr.rf eH35 (List.mem_singleton.mpr rfl)
  have h_48 := (fz 48 (by decide)).trans h_48
  have h_49 := (fz 49 (by decide)).trans h_49
  have w50 := w50.fr fz (by decide) (by decide)
  have w52 := w52.fr fz (by decide) (by decide)
  have w54 := w54.fr fz (by decide) (by decide)
  have w56 := w56.fr fz (by decide) (by decide)
  have h_58 := (fz 58 (by decide)).trans h_58
  have w59 := w59.fr fz (by decide) (by decide) (by decide)
  have w62 := w62.fr fz (by decide) (by decide)
  have w64 := w64.fr fz (by decide) (by decide)
  have h_66 := (fz 66 (by decide)).trans h_66
  have h_67 := (fz 67 (by decide)).trans h_67
  have h_68 := (fz 68 (by decide)).trans h_68
  have w69 := w69.fr fz (by decide) (by decide)
  have w71 := w71.fr fz (by decide) (by decide)
  have h_73 := (fz 73 (by decide)).trans h_73
  have w74 := w74.fr fz (by decide) (by decide)
  have w76 := w76.fr fz (by decide) (by decide)
  refine v_iconst (iI 0) dX11_init_183 rfl ?_
  refine v_istore_n (i := 1) (lv' := [(1, .int (iI 0)), (0, .ref 47)]) dX11_init_184 rfl (by decide) rfl ?_
  refine w_sub (lv2 := [(0, .ref 47), (1, .int (iI 0))]) [1, 0] rfl ?_
  exact loop 32 0 _ _ (by decide) (fun q => by simp) ⟨h_47, h_49, ⟨w50, w52, w54, w56, w62, w64, w69, w71, w74, w76⟩, h_58, w59, h_66, h_67, h_68, h_73⟩ h_48 hk fr
