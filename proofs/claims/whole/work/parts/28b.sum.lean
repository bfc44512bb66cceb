/-! The reference: products and values gathered into a sum -/
theorem nb_mul2 {x y : Nat} : nb (x * y) ≤ nb x + nb y := by
  apply nb_le
  have h1 := nb_hi x
  have h2 := nb_hi y
  rw [Nat.pow_add]
  rcases Nat.eq_zero_or_pos y with z | z
  · rw [z, Nat.mul_zero]; exact Nat.mul_pos (p_pos _) (p_pos _)
  · exact Nat.mul_lt_mul_of_lt_of_le h1 (Nat.le_of_lt h2) (p_pos _)
theorem nb_pow2 {x t : Nat} : nb (x * 2 ^ t) ≤ nb x + t := nb_le (nb_mul_lt (Nat.le_refl _))
set_option maxHeartbeats 8000000 in
set_option maxRecDepth 100000 in
theorem p_gatherProduct {d n s a b p q : Nat} {by9 Q vs vm ve sg e rt th tp wr at9 sz dg pw tn fm : Int} {na : Bool} {wd pt : Nat → Nat} {h : zH} (h_47 : h 47 = oModel vs vm ve sg e rt th tp wr at9 sz dg pw tn fm) (h_48 : h 48 = aN 32 wd) (h_49 : h 49 = aM 32 pt) (hPL : PL wd pt) (hp : p < 32) (hq : q < 32) (hp9 : pt p ≠ 2 ^ (wd p - 1)) (hq9 : pt q ≠ 2 ^ (wd q - 1)) (hQ : SQ h s a b Q na) (hP : NS h 62 63) (hS : NS h 64 65) (hne : gne s a b) (hby : by9 = 1 ∨ by9 = -1) (hb1 : nb Q.natAbs ≤ 5000) (hd : 3 ≤ d) :
    zM yX11_gatherProduct cX11_gatherProduct 9 none d 0 0 [.ref 47, .ref s, .int (iI (p:Nat)), .int (iI (q:Nat)), .int (iI by9)] h n (fun r h' n' => r = none ∧ n' = n ∧ (∃ vs vm ve, h' 47 = oModel vs vm ve sg e rt th tp wr at9 sz dg pw tn fm) ∧ SQ h' s a b (Q + by9 * (pvI (pt p) (wd p) * pvI (pt q) (wd q))) na ∧ NS h' 62 63 ∧ NS h' 64 65 ∧ zFr [47, s, a, b, 62, 63, 64, 65] h h') := by
  obtain ⟨hc_s, hc_z⟩ := id hQ
  obtain ⟨_, _, hc_a, hc_b, -⟩ := id hc_z
  have ns47 : gq s 47 := cne h_47 hc_s (by decide)
  have na47 : gq a 47 := cne h_47 hc_a (by decide)
  have nb47 : gq b 47 := wne h_47 hc_b
  refine zM_of zyX11_gatherProduct rfl (Nat.le_of_ble_eq_true rfl) (fun X hX => ?_)
  have fr : zFr [47, s, a, b, 62, 63, 64, 65] h h := zFr.rf
  refine v_aload_n dX11_gatherProduct_0 rfl ?_
  refine v_iload_n dX11_gatherProduct_1 rfl ?_
  refine v_cV (av := [.int (iI (p:Nat))]) (st := []) zyX11_look lX11_112 h_47 rfl (p_look (d := 2) h_47 h_48 h_49 hPL hp (by decide)) dX11_gatherProduct_2 rfl rfl (Nat.le_of_ble_eq_true rfl) (by omega) (Nat.le_of_ble_eq_true rfl) (Nat.le_of_ble_eq_true rfl) (Or.inl (fun _ _ _ q => ZN q)) (fun r9 G1 n9 q9 => ?_)
  obtain ⟨rfl, q9n, ⟨s1, M1, E1, h_47, hl1, hm1, hx1, hy1⟩, fr9⟩ := q9
  have q9n := q9n.symm
  subst q9n
  have h_48 := (fr9 48 (by decide)).trans h_48
  have h_49 := (fr9 49 (by decide)).trans h_49
  have hQ := hQ.fr fr9 (by simp [ns47.nn]) (by simp [na47.nn]) (by simp [nb47.nn])
  have hP := hP.fr fr9 (by decide) (by decide)
  have hS := hS.fr fr9 (by decide) (by decide)
  have fr := fr.tr fr9 (by simp)
  refine v_aload_n dX11_gatherProduct_5 rfl ?_
  refine v_get fX11_17 dX11_gatherProduct_6 h_47 (by decide) rfl ?_
  refine v_istore (i := 5) (lv' := [(5, .int (iI s1)), (0, .ref 47), (1, .ref s), (2, .int (iI (p:Nat))), (3, .int (iI (q:Nat))), (4, .int (iI by9))]) dX11_gatherProduct_9 (by decide) rfl ?_
  refine v_aload_n dX11_gatherProduct_11 rfl ?_
  refine v_get fX11_7 dX11_gatherProduct_12 h_47 (by decide) rfl ?_
  refine v_lstore (i := 6) (lv' := [(6, .long (jL (M1:Nat))), (5, .int (iI s1)), (0, .ref 47), (1, .ref s), (2, .int (iI (p:Nat))), (3, .int (iI (q:Nat))), (4, .int (iI by9))]) dX11_gatherProduct_15 (by decide) rfl ?_
  refine v_aload_n dX11_gatherProduct_17 rfl ?_
  refine v_get fX11_13 dX11_gatherProduct_18 h_47 (by decide) rfl ?_
  refine v_istore (i := 8) (lv' := [(8, .int (iI E1)), (6, .long (jL (M1:Nat))), (5, .int (iI s1)), (0, .ref 47), (1, .ref s), (2, .int (iI (p:Nat))), (3, .int (iI (q:Nat))), (4, .int (iI by9))]) dX11_gatherProduct_21 (by decide) rfl ?_
  refine v_aload_n dX11_gatherProduct_23 rfl ?_
  refine v_iload_n dX11_gatherProduct_24 rfl ?_
  refine v_cV (av := [.int (iI (q:Nat))]) (st := []) zyX11_look lX11_112 h_47 rfl (p_look (d := 2) h_47 h_48 h_49 hPL hq (by decide)) dX11_gatherProduct_25 rfl rfl (Nat.le_of_ble_eq_true rfl) (by omega) (Nat.le_of_ble_eq_true rfl) (Nat.le_of_ble_eq_true rfl) (Or.inl (fun _ _ _ q => ZN q)) (fun r9 G2 n9 q9 => ?_)
  obtain ⟨rfl, q9n, ⟨s2, M2, E2, h_47, hl2, hm2, hx2, hy2⟩, fr8⟩ := q9
  have q9n := q9n.symm
  subst q9n
  have hQ := hQ.fr fr8 (by simp [ns47.nn]) (by simp [na47.nn]) (by simp [nb47.nn])
  have hP := hP.fr fr8 (by decide) (by decide)
  have hS := hS.fr fr8 (by decide) (by decide)
  have fr := fr.tr fr8 (by simp)
  have l1 := lk_pv hl1 hp9
  have l2 := lk_pv hl2 hq9
  refine v_aload_n dX11_gatherProduct_28 rfl ?_
  refine v_get fX11_100 dX11_gatherProduct_29 h_47 (by decide) rfl ?_
  refine v_lload dX11_gatherProduct_32 rfl ?_
  obtain ⟨_, _, h_62, -⟩ := id hP
  refine v_cV (av := [.long (jL (M1:Nat))]) (st := []) zyX9_set lX11_39 h_62 rfl (p_nset (d := 2) (x := M1) hP (by omega) (by omega) (by omega)) dX11_gatherProduct_34 rfl rfl (Nat.le_of_ble_eq_true rfl) (by omega) (Nat.le_of_ble_eq_true rfl) (Nat.le_of_ble_eq_true rfl) (Or.inl (fun _ _ _ q => ZN q)) (fun r9 G3 n9 q9 => ?_)
  obtain ⟨rfl, q9n, hP, fr7⟩ := q9
  have q9n := q9n.symm
  subst q9n
  have h_47 := (fr7 47 (by decide)).trans h_47
  have hQ := hQ.fr fr7 (by simp [hne.2.2.1, hne.2.2.2.1]) (by simp [hne.1.1, hne.1.2.1]) (by simp [hne.1.2.2.1, hne.1.2.2.2])
  have hS := hS.fr fr7 (by decide) (by decide)
  have fr := fr.tr fr7 (by simp)
  have hnM1 : nb M1 ≤ 32 := nb_le (k := 32) hm1
  have hnM2 : nb M2 ≤ 32 := nb_le (k := 32) hm2
  refine v_aload_n dX11_gatherProduct_37 rfl ?_
  refine v_get fX11_100 dX11_gatherProduct_38 h_47 (by decide) rfl ?_
  refine v_aload_n dX11_gatherProduct_41 rfl ?_
  refine v_get fX11_7 dX11_gatherProduct_42 h_47 (by decide) rfl ?_
  refine v_iconst (iI 0) dX11_gatherProduct_45 rfl ?_
  obtain ⟨_, _, h_62, -⟩ := id hP
  refine v_cV (av := [.long (jL (M2:Nat)), .int (iI 0)]) (st := []) zyX9_times lX11_64 h_62 rfl (p_ntimes (d := 2) (x := M2) (y := 0) hP hm2 (by decide) (big_of hnM1 (by decide))) dX11_gatherProduct_46 rfl rfl (Nat.le_of_ble_eq_true rfl) (by omega) (Nat.le_of_ble_eq_true rfl) (Nat.le_of_ble_eq_true rfl) (Or.inl (fun _ _ _ q => ZN q)) (fun r9 G4 n9 q9 => ?_)
  obtain ⟨rfl, q9n, hPs, hP, fr6⟩ := q9
  have q9n := q9n.symm
  subst q9n
  have h_47 := (fr6 47 (by decide)).trans h_47
  have hQ := hQ.fr fr6 (by simp [hne.2.2.1, hne.2.2.2.1]) (by simp [hne.1.1, hne.1.2.1]) (by simp [hne.1.2.2.1, hne.1.2.2.2])
  have hS := hS.fr fr6 (by decide) (by decide)
  have fr := fr.tr fr6 (by simp)
  have fin : ∀ (H : zH) (P : Nat), (s1 * s2 * by9 ≠ 0 → ND H 62 63 P ∧ 0 < P) → nb P ≤ 5000 → s1 * s2 * by9 * (P : Int) = by9 * (pvI (pt p) (wd p) * pvI (pt q) (wd q)) → H 47 = oModel s2 (M2:Nat) E2 sg e rt th tp wr at9 sz dg pw tn fm → SQ H s a b Q na → NS H 62 63 → NS H 64 65 → zFr [47, s, a, b, 62, 63, 64, 65] h H → (zV X (fun r h' n' => r = none ∧ n' = n ∧ (∃ vs vm ve, h' 47 = oModel vs vm ve sg e rt th tp wr at9 sz dg pw tn fm) ∧ SQ h' s a b (Q + by9 * (pvI (pt p) (wd p) * pvI (pt q) (wd q))) na ∧ NS h' 62 63 ∧ NS h' 64 65 ∧ zFr [47, s, a, b, 62, 63, 64, 65] h h') cX11_gatherProduct 9 RX11 none d 0 0 79 [(0, .ref 47), (1, .ref s), (4, .int (iI by9)), (5, .int (iI s1))] [] H n 0 0) := by
    intro H P hPP hnP eP h_47 hQ hPs hS fr
    have hps : s1 * s2 * by9 = -1 ∨ s1 * s2 * by9 = 0 ∨ s1 * s2 * by9 = 1 := by
      have k1 : s1 = 0 ∨ s1 = 1 ∨ s1 = -1 := by omega
      have k2 : s2 = 0 ∨ s2 = 1 ∨ s2 = -1 := by omega
      rcases k1 with rfl | rfl | rfl <;> rcases k2 with rfl | rfl | rfl <;> rcases hby with rfl | rfl <;> decide
    refine v_aload_n dX11_gatherProduct_79 rfl ?_
    refine v_aload_n dX11_gatherProduct_80 rfl ?_
    refine v_iload dX11_gatherProduct_81 rfl ?_
    refine v_aload_n dX11_gatherProduct_83 rfl ?_
    refine v_get fX11_17 dX11_gatherProduct_84 h_47 (by decide) rfl ?_
    refine w_imul dX11_gatherProduct_87 ?_
    refine v_iload dX11_gatherProduct_88 rfl ?_
    refine w_imul dX11_gatherProduct_90 ?_
    refine v_cV (av := [.ref s, .int (iI ((s1 * s2) * by9))]) (st := []) zyX11_gather lX11_115 h_47 rfl (p_mgather (d := 2) h_47 hQ hPP hS hne hps hb1 hnP (by decide)) dX11_gatherProduct_91 rfl rfl (Nat.le_of_ble_eq_true rfl) (by omega) (Nat.le_of_ble_eq_true rfl) (Nat.le_of_ble_eq_true rfl) (Or.inl (fun _ _ _ q => ZN q)) (fun r9 G9 n9 q9 => ?_)
    obtain ⟨rfl, q9n, hQ, hS, fr9⟩ := q9
    have q9n := q9n.symm
    subst q9n
    rw [eP] at hQ
    have h_47 := (fr9 47 (by simp [ns47.nn.symm, na47.nn.symm, nb47.nn.symm])).trans h_47
    have hPs := hPs.fr fr9 (by simp [hne.2.2.1.symm, hne.1.1.symm, hne.1.2.2.1.symm]) (by simp [hne.2.2.2.1.symm, hne.1.2.1.symm, hne.1.2.2.2.symm])
    exact v_vret dX11_gatherProduct_94 trivial (Nat.le_of_ble_eq_true rfl) (Nat.le_of_ble_eq_true rfl) ⟨rfl, rfl, ⟨_, _, _, h_47⟩, hQ, hPs, hS, fr.tr fr9 (by simp)⟩
  refine v_iload dX11_gatherProduct_49 rfl ?_
  refine w_if_eq 79 dX11_gatherProduct_51 (by decide) (by omega) (fun c1 => ?_) (fun c1 => ?_)
  · skip
    refine w_sub (lv2 := [(0, .ref 47), (1, .ref s), (4, .int (iI by9)), (5, .int (iI s1))]) [3, 4, 7, 2] rfl ?_
    have e0 : pvI (pt p) (wd p) = 0 := by
      rcases l1 with ⟨-, -, -, -, z⟩ | ⟨-, z, -⟩
      · exact z
      · omega
    exact fin _ 0 (fun z => absurd (by rw [c1, Int.zero_mul, Int.zero_mul]) z) (by decide) (by rw [e0, Int.zero_mul, Int.mul_zero]; simp) h_47 hQ hPs hS fr
  · skip
    refine v_aload_n dX11_gatherProduct_54 rfl ?_
    refine v_get fX11_17 dX11_gatherProduct_55 h_47 (by decide) rfl ?_
    refine w_if_eq 79 dX11_gatherProduct_58 (by decide) (by omega) (fun c2 => ?_) (fun c2 => ?_)
    · skip
      refine w_sub (lv2 := [(0, .ref 47), (1, .ref s), (4, .int (iI by9)), (5, .int (iI s1))]) [3, 4, 7, 2] rfl ?_
      have e0 : pvI (pt q) (wd q) = 0 := by
        rcases l2 with ⟨-, -, -, -, z⟩ | ⟨-, z, -⟩
        · exact z
        · omega
      exact fin _ 0 (fun z => absurd (by rw [c2, Int.mul_zero, Int.zero_mul]) z) (by decide) (by rw [e0, Int.mul_zero, Int.mul_zero]; simp) h_47 hQ hPs hS fr
    · obtain ⟨-, k1, f1, g1, g1', v1, -⟩ := l1.resolve_left (fun z => c1 z.2.1)
      obtain ⟨-, k2, f2, g2, g2', v2, -⟩ := l2.resolve_left (fun z => c2 z.2.1)
      have hP := hP (by omega)
      have hnb2 := nb_mul2 (x := M1) (y := M2)
      rw [Nat.add_zero] at hP
      refine v_aload_n dX11_gatherProduct_61 rfl ?_
      refine v_get fX11_100 dX11_gatherProduct_62 h_47 (by decide) rfl ?_
      refine v_iload dX11_gatherProduct_65 rfl ?_
      refine v_aload_n dX11_gatherProduct_67 rfl ?_
      refine v_get fX11_13 dX11_gatherProduct_68 h_47 (by decide) rfl ?_
      refine w_iadd dX11_gatherProduct_71 ?_
      refine v_sipush (iI 240) dX11_gatherProduct_72 rfl ?_
      refine w_iadd dX11_gatherProduct_75 ?_
      refine w_ei ((E1 + E2 + 240).toNat:Nat) (by omega) ?_
      obtain ⟨_, _, h_62, -⟩ := id hP
      refine v_cV (av := [.int (iI ((E1 + E2 + 240).toNat:Nat))]) (st := []) zyX9_shift lX11_71 h_62 rfl (p_nshift (d := 2) hP (by decide) (by omega) (big_sh (by omega))) dX11_gatherProduct_76 rfl rfl (Nat.le_of_ble_eq_true rfl) (by omega) (Nat.le_of_ble_eq_true rfl) (Nat.le_of_ble_eq_true rfl) (Or.inl (fun _ _ _ q => ZN q)) (fun r9 G5 n9 q9 => ?_)
      obtain ⟨rfl, q9n, hP, fr5⟩ := q9
      have q9n := q9n.symm
      subst q9n
      have h_47 := (fr5 47 (by decide)).trans h_47
      have hQ := hQ.fr fr5 (by simp [hne.2.2.1, hne.2.2.2.1]) (by simp [hne.1.1, hne.1.2.1]) (by simp [hne.1.2.2.1, hne.1.2.2.2])
      have hS := hS.fr fr5 (by decide) (by decide)
      have fr := fr.tr fr5 (by simp)
      refine w_sub (lv2 := [(0, .ref 47), (1, .ref s), (4, .int (iI by9)), (5, .int (iI s1))]) [3, 4, 7, 2] rfl ?_
      have hnb3 := nb_pow2 (x := M1 * M2) (t := (E1 + E2 + 240).toNat)
      refine fin _ (M1 * M2 * 2 ^ (E1 + E2 + 240).toNat) (fun _ => ⟨hP, Nat.mul_pos (Nat.mul_pos f1 f2) (p_pos _)⟩) (by omega) ?_ h_47 hQ hP.ns hS fr
      rw [v1, v2]
      have e9 : M1 * M2 * 2 ^ (E1 + E2 + 240).toNat = (M1 * 2 ^ (E1 + 120).toNat) * (M2 * 2 ^ (E2 + 120).toNat) := by
        rw [show (E1 + E2 + 240).toNat = (E1 + 120).toNat + (E2 + 120).toNat from by omega, Nat.pow_add]
        generalize 2 ^ (E1 + 120).toNat = A
        generalize 2 ^ (E2 + 120).toNat = B
        rw [Nat.mul_assoc, Nat.mul_assoc, Nat.mul_left_comm M2]
      rw [e9, Int.natCast_mul]
      generalize ((M1 * 2 ^ (E1 + 120).toNat : Nat) : Int) = A
      generalize ((M2 * 2 ^ (E2 + 120).toNat : Nat) : Int) = B
      rcases k1 with rfl | rfl <;> rcases k2 with rfl | rfl <;> rcases hby with rfl | rfl <;> simp [Int.neg_mul, Int.mul_neg]
