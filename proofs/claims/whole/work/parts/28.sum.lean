/-! The reference's sums -/
abbrev oSum (a : Nat) (sg : Int) (na : Bool) : zC := .inr (9, [.ref a, .int (iI sg), .int (iI (bz na))])
def sgI (Q : Int) : Int := if Q < 0 then -1 else if Q = 0 then 0 else 1
theorem sgI_r (Q : Int) : -1 ≤ sgI Q ∧ sgI Q ≤ 1 := by unfold sgI; split; omega; split <;> omega
theorem sgI_c (Q : Int) : (Q < 0 ∧ sgI Q = -1) ∨ (Q = 0 ∧ sgI Q = 0) ∨ (0 < Q ∧ sgI Q = 1) := by
  unfold sgI
  rcases Int.lt_trichotomy Q 0 with q | q | q
  · exact Or.inl ⟨q, by rw [if_pos q]⟩
  · exact Or.inr (Or.inl ⟨q, by rw [if_neg (by omega), if_pos q]⟩)
  · exact Or.inr (Or.inr ⟨q, by rw [if_neg (by omega), if_neg (by omega)]⟩)
/-- the sum at s, with its Nat at a and b, is Q -/
def SQ (h : zH) (s a b : Nat) (Q : Int) (na : Bool) : Prop := h s = oSum a (sgI Q) na ∧ ND h a b Q.natAbs
theorem SQ.fr {h h' : zH} {s a b : Nat} {Q : Int} {na : Bool} {S : List Nat} (q : SQ h s a b Q na) (f : zFr S h h') (hs : s ∉ S) (ha : a ∉ S) (hb : b ∉ S) : SQ h' s a b Q na := ⟨(f s hs).trans q.1, q.2.fr f ha hb⟩
set_option maxHeartbeats 8000000 in
set_option maxRecDepth 100000 in
theorem p_sclear {d n s a b : Nat} {Q : Int} {na : Bool} {h : zH} (hQ : SQ h s a b Q na) :
    zM yX10_clear cX10_clear 1 none d 0 0 [.ref s] h n (fun r h' n' => r = none ∧ n' = n ∧ SQ h' s a b 0 false ∧ zFr [s, a] h h') := by
  obtain ⟨h_s, u, f, h_a, h_b, hf, hu, -⟩ := hQ
  have ne_b_a := wne h_a h_b
  have ne_b_s := wne h_s h_b
  have ne_s_a : s ≠ a := cne h_a h_s (by decide)
  have ne_a_s := ne_s_a.symm
  refine zM_of zyX10_clear rfl (Nat.le_of_ble_eq_true rfl) (fun X hX => ?_)
  have fr : zFr [s, a] h h := zFr.rf
  refine v_aload_n dX10_clear_0 rfl ?_
  refine v_get fX10_10 dX10_clear_1 h_s (by decide) rfl ?_
  refine v_iconst (iI 0) dX10_clear_4 rfl ?_
  refine v_putN (fs' := [.ref b, .int (iI 0)]) fX10_16 dX10_clear_5 h_a (by decide) (Nat.le_of_ble_eq_true rfl) rfl rfl rfl (fun H1 eH1 => ?_)
  have h_a : H1 a = oNat b 0 := zf_same eH1
  have h_s := (zf_ne eH1 ne_s_a).trans h_s
  have h_b := (zf_ne eH1 ne_b_a).trans h_b
  have fr := fr.put eH1 (by simp)
  refine v_aload_n dX10_clear_8 rfl ?_
  refine v_iconst (iI 0) dX10_clear_9 rfl ?_
  refine v_put (fs' := [.ref a, .int (iI 0), .int (iI (bz na))]) fX10_20 dX10_clear_10 h_s (by decide) (Nat.le_of_ble_eq_true rfl) rfl rfl rfl (fun H2 eH2 => ?_)
  have h_s : H2 s = oSum a 0 na := zf_same eH2
  have h_a := (zf_ne eH2 ne_a_s).trans h_a
  have h_b := (zf_ne eH2 ne_b_s).trans h_b
  have fr := fr.put eH2 (by simp)
  refine v_aload_n dX10_clear_13 rfl ?_
  refine v_iconst (iI 0) dX10_clear_14 rfl ?_
  refine w_ei (bz false) rfl ?_
  refine v_put (fs' := [.ref a, .int (iI 0), .int (iI (bz false))]) fX10_23 dX10_clear_15 h_s (by decide) (Nat.le_of_ble_eq_true rfl) bz_n bz_f rfl (fun H3 eH3 => ?_)
  have h_s : H3 s = oSum a 0 false := zf_same eH3
  have h_a := (zf_ne eH3 ne_a_s).trans h_a
  have h_b := (zf_ne eH3 ne_b_s).trans h_b
  have fr := fr.put eH3 (by simp)
  exact v_vret dX10_clear_18 trivial (Nat.le_of_ble_eq_true rfl) (Nat.le_of_ble_eq_true rfl) ⟨rfl, rfl, ⟨h_s, 0, f, h_a, h_b, hf, by decide, rfl, Or.inl rfl⟩, fr⟩
def gq (x y : Nat) : Prop := x ≠ y
theorem gq.nn {x y : Nat} (h : gq x y) : x ≠ y := h
def gne (s a b : Nat) : Prop := (a ≠ 62 ∧ a ≠ 63 ∧ b ≠ 62 ∧ b ≠ 63) ∧ (a ≠ 64 ∧ a ≠ 65 ∧ b ≠ 64 ∧ b ≠ 65) ∧ (s ≠ 62 ∧ s ≠ 63 ∧ s ≠ 64 ∧ s ≠ 65)
set_option maxHeartbeats 8000000 in
set_option maxRecDepth 100000 in
theorem p_mgather {d n s a b P : Nat} {ps Q vs vm ve sg e rt th tp wr at9 sz dg pw tn fm : Int} {na : Bool} {h : zH} (h_47 : h 47 = oModel vs vm ve sg e rt th tp wr at9 sz dg pw tn fm) (hQ : SQ h s a b Q na) (hP : ps ≠ 0 → ND h 62 63 P ∧ 0 < P) (hS : NS h 64 65) (hne : gne s a b) (hps : ps = -1 ∨ ps = 0 ∨ ps = 1) (hb1 : nb Q.natAbs ≤ 5000) (hb2 : nb P ≤ 5000) (hd : 2 ≤ d) :
    zM yX11_gather cX11_gather 4 none d 0 0 [.ref 47, .ref s, .int (iI ps)] h n (fun r h' n' => r = none ∧ n' = n ∧ SQ h' s a b (Q + ps * P) na ∧ NS h' 64 65 ∧ zFr [s, a, b, 64, 65] h h') := by
  obtain ⟨h_s, hZ⟩ := id hQ
  have hsr := sgI_r Q
  have hsc := sgI_c Q
  obtain ⟨z1, z2, h_a, h_b, z3⟩ := id hZ
  have ne_47_s : gq 47 s := (cne h_47 h_s (by decide)).symm
  have nsa : gq s a := cne h_a h_s (by decide)
  have nsb : gq b s := wne h_s h_b
  have na47 : gq a 47 := cne h_47 h_a (by decide)
  have nb47 : gq b 47 := wne h_47 h_b
  refine zM_of zyX11_gather rfl (Nat.le_of_ble_eq_true rfl) (fun X hX => ?_)
  have fr : zFr [s, a, b, 64, 65] h h := zFr.rf
  refine v_iload_n dX11_gather_0 rfl ?_
  refine w_if_ne 5 dX11_gather_1 (by decide) (by omega) (fun c1 => ?_) (fun c1 => ?_)
  · obtain ⟨hP, hP0⟩ := hP c1
    have addj : sgI Q = 0 ∨ sgI Q = ps → (zV X (fun r h' n' => r = none ∧ n' = n ∧ SQ h' s a b (Q + ps * P) na ∧ NS h' 64 65 ∧ zFr [s, a, b, 64, 65] h h') cX11_gather 4 RX11 none d 0 0 20 [(0, .ref 47), (1, .ref s), (2, .int (iI ps))] [] h n 0 0) := by
      intro hc
      refine v_aload_n dX11_gather_20 rfl ?_
      refine v_getN fX11_97 dX11_gather_21 h_s (by decide) rfl ?_
      refine v_aload_n dX11_gather_24 rfl ?_
      refine v_get fX11_100 dX11_gather_25 h_47 (by decide) rfl ?_
      refine v_cV (av := [.ref 62]) (st := []) zyX9_add lX11_103 h_a rfl (p_nadd (d := 1) hZ hP ⟨hne.1.1.symm, hne.1.2.2.1.symm, hne.1.2.1.symm, hne.1.2.2.2.symm⟩ (big_of hb1 (by decide)) (big_of hb2 (by decide)) (by decide)) dX11_gather_28 rfl rfl (Nat.le_of_ble_eq_true rfl) (by omega) (Nat.le_of_ble_eq_true rfl) (Nat.le_of_ble_eq_true rfl) (Or.inl (fun _ _ _ q => ZN q)) (fun r9 G1 n9 q9 => ?_)
      obtain ⟨rfl, q9n, hZ, fr9⟩ := q9
      have q9n := q9n.symm
      subst q9n
      have h_s := (fr9 s (by simp [nsa.nn, nsb.nn.symm])).trans h_s
      have h_47 := (fr9 47 (by simp [na47.nn.symm, nb47.nn.symm])).trans h_47
      have hS := hS.fr fr9 (by simp [hne.2.1.1.symm, hne.2.1.2.2.1.symm]) (by simp [hne.2.1.2.1.symm, hne.2.1.2.2.2.symm])
      have fr := fr.tr fr9 (by simp)
      refine v_aload_n dX11_gather_31 rfl ?_
      refine v_iload_n dX11_gather_32 rfl ?_
      refine v_putN (fs' := [.ref a, .int (iI ps), .int (iI (bz na))]) fX11_94 dX11_gather_33 h_s (by decide) (Nat.le_of_ble_eq_true rfl) rfl rfl rfl (fun H1 eH1 => ?_)
      have h_s : H1 s = oSum a ps na := zf_same eH1
      have h_47 := (zf_ne eH1 ne_47_s).trans h_47
      have fr := fr.put eH1 (by simp)
      have fz : zFr [s] G1 H1 := zFr.put zFr.rf eH1 (by simp)
      have e1 : sgI (Q + ps * (P : Int)) = ps := by
        unfold sgI
        rcases hps with rfl | rfl | rfl
        · rw [if_pos (by omega)]
        · exact absurd rfl c1
        · rw [if_neg (by omega), if_neg (by omega)]
      have e2 : (Q + ps * (P : Int)).natAbs = Q.natAbs + P := by
        rcases hps with rfl | rfl | rfl
        · omega
        · exact absurd rfl c1
        · omega
      exact v_vret dX11_gather_36 trivial (Nat.le_of_ble_eq_true rfl) (Nat.le_of_ble_eq_true rfl) ⟨rfl, rfl, ⟨by rw [e1]; exact h_s, by rw [e2]; exact hZ.fr fz (by simp [nsa.nn.symm]) (by simp [nsb.nn])⟩, hS.fr fz (by simp [hne.2.2.2.2.1.symm]) (by simp [hne.2.2.2.2.2.symm]), fr⟩
    refine v_aload_n dX11_gather_5 rfl ?_
    refine v_getN fX11_94 dX11_gather_6 h_s (by decide) rfl ?_
    refine w_if_eq 20 dX11_gather_9 (by decide) (by omega) (fun c2 => ?_) (fun c2 => ?_)
    · exact addj (Or.inl c2)
    · skip
      refine v_aload_n dX11_gather_12 rfl ?_
      refine v_getN fX11_94 dX11_gather_13 h_s (by decide) rfl ?_
      refine v_iload_n dX11_gather_16 rfl ?_
      refine w_icmp_ne 37 dX11_gather_17 (by decide) (by omega) (by omega) (fun c3 => ?_) (fun c3 => ?_)
      · have hr := cmpz_r Q.natAbs P
        have hopp : (ps = 1 ∧ Q < 0) ∨ (ps = -1 ∧ 0 < Q) := by omega
        refine v_aload_n dX11_gather_37 rfl ?_
        refine v_getN fX11_97 dX11_gather_38 h_s (by decide) rfl ?_
        refine v_aload_n dX11_gather_41 rfl ?_
        refine v_get fX11_100 dX11_gather_42 h_47 (by decide) rfl ?_
        refine v_cV (av := [.ref 62]) (st := []) zyX9_compare lX11_75 h_a rfl (p_ncompare (d := 1) hZ hP) dX11_gather_45 rfl rfl (Nat.le_of_ble_eq_true rfl) (by omega) (Nat.le_of_ble_eq_true rfl) (Nat.le_of_ble_eq_true rfl) (Or.inl (fun _ _ _ q => ZN q)) (fun r9 K1 n9 q9 => ?_)
        obtain ⟨rfl, q9n, q9h⟩ := q9
        have q9n := q9n.symm
        subst q9n
        have q9h := q9h.symm
        subst q9h
        refine v_istore_n (i := 3) (lv' := [(3, .int (iI (cmpz Q.natAbs P))), (0, .ref 47), (1, .ref s), (2, .int (iI ps))]) dX11_gather_48 rfl (by decide) rfl ?_
        refine v_iload_n dX11_gather_49 rfl ?_
        refine w_if_ge 94 dX11_gather_50 (by decide) (by omega) (fun c4 => ?_) (fun c4 => ?_)
        · have hle : P ≤ Q.natAbs := by
            rcases Nat.lt_or_ge Q.natAbs P with y | y
            · have := cmpz_lt.mpr y; omega
            · exact y
          refine v_aload_n dX11_gather_94 rfl ?_
          refine v_getN fX11_97 dX11_gather_95 h_s (by decide) rfl ?_
          refine v_aload_n dX11_gather_98 rfl ?_
          refine v_get fX11_100 dX11_gather_99 h_47 (by decide) rfl ?_
          refine v_cV (av := [.ref 62]) (st := []) zyX9_less lX11_109 h_a rfl (p_nless (d := 1) hZ hP ⟨hne.1.1.symm, hne.1.2.2.1.symm, hne.1.2.1.symm, hne.1.2.2.2.symm⟩ hle (by decide)) dX11_gather_102 rfl rfl (Nat.le_of_ble_eq_true rfl) (by omega) (Nat.le_of_ble_eq_true rfl) (Nat.le_of_ble_eq_true rfl) (Or.inl (fun _ _ _ q => ZN q)) (fun r9 G1 n9 q9 => ?_)
          obtain ⟨rfl, q9n, hZ, fr9⟩ := q9
          have q9n := q9n.symm
          subst q9n
          have h_s := (fr9 s (by simp [nsa.nn, nsb.nn.symm])).trans h_s
          have h_47 := (fr9 47 (by simp [na47.nn.symm, nb47.nn.symm])).trans h_47
          have hS := hS.fr fr9 (by simp [hne.2.1.1.symm, hne.2.1.2.2.1.symm]) (by simp [hne.2.1.2.1.symm, hne.2.1.2.2.2.symm])
          have fr := fr.tr fr9 (by simp)
          have e2 : (Q + ps * (P : Int)).natAbs = Q.natAbs - P := by rcases hopp with ⟨rfl, y⟩ | ⟨rfl, y⟩ <;> omega
          refine v_aload_n dX11_gather_105 rfl ?_
          refine v_iload_n dX11_gather_106 rfl ?_
          refine w_if_ne 114 dX11_gather_107 (by decide) (by omega) (fun c5 => ?_) (fun c5 => ?_)
          · have hlt : P < Q.natAbs := by
              rcases Nat.lt_or_ge P Q.natAbs with y | y
              · exact y
              · exact absurd (cmpz_eq.mpr (by omega)) c5
            have e1 : sgI (Q + ps * (P : Int)) = sgI Q := by
              rcases hopp with ⟨rfl, y⟩ | ⟨rfl, y⟩
              · unfold sgI; rw [if_pos (by omega), if_pos (by omega)]
              · unfold sgI; rw [if_neg (by omega), if_neg (by omega), if_neg (by omega), if_neg (by omega)]
            refine v_aload_n dX11_gather_114 rfl ?_
            refine v_getN fX11_94 dX11_gather_115 h_s (by decide) rfl ?_
            refine v_putN (fs' := [.ref a, .int (iI (sgI Q)), .int (iI (bz na))]) fX11_94 dX11_gather_118 h_s (by decide) (Nat.le_of_ble_eq_true rfl) rfl rfl rfl (fun H1 eH1 => ?_)
            have h_s : H1 s = oSum a (sgI Q) na := zf_same eH1
            have h_47 := (zf_ne eH1 ne_47_s).trans h_47
            have fr := fr.put eH1 (by simp)
            have fz : zFr [s] G1 H1 := zFr.put zFr.rf eH1 (by simp)
            exact v_vret dX11_gather_121 trivial (Nat.le_of_ble_eq_true rfl) (Nat.le_of_ble_eq_true rfl) ⟨rfl, rfl, ⟨by rw [e1]; exact h_s, by rw [e2]; exact hZ.fr fz (by simp [nsa.nn.symm]) (by simp [nsb.nn])⟩, hS.fr fz (by simp [hne.2.2.2.2.1.symm]) (by simp [hne.2.2.2.2.2.symm]), fr⟩
          · have heq : Q.natAbs = P := cmpz_eq.mp c5
            have e1 : sgI (Q + ps * (P : Int)) = 0 := by
              unfold sgI
              rcases hopp with ⟨rfl, y⟩ | ⟨rfl, y⟩
              · rw [if_neg (by omega), if_pos (by omega)]
              · rw [if_neg (by omega), if_pos (by omega)]
            refine v_iconst (iI 0) dX11_gather_110 rfl ?_
            refine v_goto 118 dX11_gather_111 (by decide) ?_
            refine v_putN (fs' := [.ref a, .int (iI 0), .int (iI (bz na))]) fX11_94 dX11_gather_118 h_s (by decide) (Nat.le_of_ble_eq_true rfl) rfl rfl rfl (fun H1 eH1 => ?_)
            have h_s : H1 s = oSum a 0 na := zf_same eH1
            have h_47 := (zf_ne eH1 ne_47_s).trans h_47
            have fr := fr.put eH1 (by simp)
            have fz : zFr [s] G1 H1 := zFr.put zFr.rf eH1 (by simp)
            exact v_vret dX11_gather_121 trivial (Nat.le_of_ble_eq_true rfl) (Nat.le_of_ble_eq_true rfl) ⟨rfl, rfl, ⟨by rw [e1]; exact h_s, by rw [e2]; exact hZ.fr fz (by simp [nsa.nn.symm]) (by simp [nsb.nn])⟩, hS.fr fz (by simp [hne.2.2.2.2.1.symm]) (by simp [hne.2.2.2.2.2.symm]), fr⟩
        · have hlt : Q.natAbs < P := cmpz_lt.mp (show cmpz Q.natAbs P < 0 by omega)
          have e2 : (Q + ps * (P : Int)).natAbs = P - Q.natAbs := by rcases hopp with ⟨rfl, y⟩ | ⟨rfl, y⟩ <;> omega
          have e1 : sgI (Q + ps * (P : Int)) = ps := by
            unfold sgI
            rcases hopp with ⟨rfl, y⟩ | ⟨rfl, y⟩
            · rw [if_neg (by omega), if_neg (by omega)]
            · rw [if_pos (by omega)]
          refine v_aload_n dX11_gather_53 rfl ?_
          refine v_get fX11_106 dX11_gather_54 h_47 (by decide) rfl ?_
          refine v_aload_n dX11_gather_57 rfl ?_
          refine v_get fX11_100 dX11_gather_58 h_47 (by decide) rfl ?_
          obtain ⟨_, _, h_64, -⟩ := id hS
          refine v_cV (av := [.ref 62]) (st := []) zyX9_copy lX11_57 h_64 rfl (p_ncopy (d := 1) hS hP (by decide)) dX11_gather_61 rfl rfl (Nat.le_of_ble_eq_true rfl) (by omega) (Nat.le_of_ble_eq_true rfl) (Nat.le_of_ble_eq_true rfl) (Or.inl (fun _ _ _ q => ZN q)) (fun r9 G1 n9 q9 => ?_)
          obtain ⟨rfl, q9n, hS, fr9⟩ := q9
          have q9n := q9n.symm
          subst q9n
          have h_s := (fr9 s (by simp [hne.2.2.2.2.1, hne.2.2.2.2.2])).trans h_s
          have h_47 := (fr9 47 (by decide)).trans h_47
          have hZ := hZ.fr fr9 (by simp [hne.2.1.1, hne.2.1.2.1]) (by simp [hne.2.1.2.2.1, hne.2.1.2.2.2])
          have fr := fr.tr fr9 (by simp)
          refine v_aload_n dX11_gather_64 rfl ?_
          refine v_get fX11_106 dX11_gather_65 h_47 (by decide) rfl ?_
          refine v_aload_n dX11_gather_68 rfl ?_
          refine v_getN fX11_97 dX11_gather_69 h_s (by decide) rfl ?_
          obtain ⟨_, _, h_64, -⟩ := id hS
          refine v_cV (av := [.ref a]) (st := []) zyX9_less lX11_109 h_64 rfl (p_nless (d := 1) hS hZ ⟨hne.2.1.1, hne.2.1.2.1, hne.2.1.2.2.1, hne.2.1.2.2.2⟩ (by omega) (by decide)) dX11_gather_72 rfl rfl (Nat.le_of_ble_eq_true rfl) (by omega) (Nat.le_of_ble_eq_true rfl) (Nat.le_of_ble_eq_true rfl) (Or.inl (fun _ _ _ q => ZN q)) (fun r9 G2 n9 q9 => ?_)
          obtain ⟨rfl, q9n, hS, fr8⟩ := q9
          have q9n := q9n.symm
          subst q9n
          have h_s := (fr8 s (by simp [hne.2.2.2.2.1, hne.2.2.2.2.2])).trans h_s
          have h_47 := (fr8 47 (by decide)).trans h_47
          have hZ := hZ.fr fr8 (by simp [hne.2.1.1, hne.2.1.2.1]) (by simp [hne.2.1.2.2.1, hne.2.1.2.2.2])
          have fr := fr.tr fr8 (by simp)
          refine v_aload_n dX11_gather_75 rfl ?_
          refine v_getN fX11_97 dX11_gather_76 h_s (by decide) rfl ?_
          refine v_aload_n dX11_gather_79 rfl ?_
          refine v_get fX11_106 dX11_gather_80 h_47 (by decide) rfl ?_
          obtain ⟨_, _, h_a, -⟩ := id hZ
          refine v_cV (av := [.ref 64]) (st := []) zyX9_copy lX11_57 h_a rfl (p_ncopy (d := 1) hZ.ns hS ⟨hne.2.1.1.symm, hne.2.1.2.2.1.symm, hne.2.1.2.1.symm, hne.2.1.2.2.2.symm⟩) dX11_gather_83 rfl rfl (Nat.le_of_ble_eq_true rfl) (by omega) (Nat.le_of_ble_eq_true rfl) (Nat.le_of_ble_eq_true rfl) (Or.inl (fun _ _ _ q => ZN q)) (fun r9 G3 n9 q9 => ?_)
          obtain ⟨rfl, q9n, hZ, fr7⟩ := q9
          have q9n := q9n.symm
          subst q9n
          have h_s := (fr7 s (by simp [nsa.nn, nsb.nn.symm])).trans h_s
          have h_47 := (fr7 47 (by simp [na47.nn.symm, nb47.nn.symm])).trans h_47
          have hS := hS.fr fr7 (by simp [hne.2.1.1.symm, hne.2.1.2.2.1.symm]) (by simp [hne.2.1.2.1.symm, hne.2.1.2.2.2.symm])
          have fr := fr.tr fr7 (by simp)
          refine v_aload_n dX11_gather_86 rfl ?_
          refine v_iload_n dX11_gather_87 rfl ?_
          refine v_putN (fs' := [.ref a, .int (iI ps), .int (iI (bz na))]) fX11_94 dX11_gather_88 h_s (by decide) (Nat.le_of_ble_eq_true rfl) rfl rfl rfl (fun H1 eH1 => ?_)
          have h_s : H1 s = oSum a ps na := zf_same eH1
          have h_47 := (zf_ne eH1 ne_47_s).trans h_47
          have fr := fr.put eH1 (by simp)
          refine v_goto 121 dX11_gather_91 (by decide) ?_
          have fz : zFr [s] G3 H1 := zFr.put zFr.rf eH1 (by simp)
          exact v_vret dX11_gather_121 trivial (Nat.le_of_ble_eq_true rfl) (Nat.le_of_ble_eq_true rfl) ⟨rfl, rfl, ⟨by rw [e1]; exact h_s, by rw [e2]; exact hZ.fr fz (by simp [nsa.nn.symm]) (by simp [nsb.nn])⟩, hS.ns.fr fz (by simp [hne.2.2.2.2.1.symm]) (by simp [hne.2.2.2.2.2.symm]), fr⟩
      · exact addj (Or.inr c3)
  · subst c1
    exact v_vret dX11_gather_4 trivial (Nat.le_of_ble_eq_true rfl) (Nat.le_of_ble_eq_true rfl) ⟨rfl, rfl, by rw [Int.zero_mul, Int.add_zero]; exact hQ, hS, fr⟩
/-- a size's value, in units of 2^-120 -/
noncomputable def uv (u n : Nat) : Nat := pM u n * 2 ^ (pE u n + 150).toNat / 1073741824
theorem uv_md {u n M : Nat} {E : Int} (h : md u n M E) (hE : -120 ≤ E) (hM : 0 < M) : uv u n = M * 2 ^ (E + 120).toNat := by
  obtain ⟨j, e1, e2⟩ := h
  have hj : j ≤ 31 := by
    have h1 : pM u n < 2147483648 := by unfold pM; omega
    rcases Nat.lt_or_ge 31 j with q | q
    · have : 2 ^ 32 ≤ 2 ^ j := Nat.pow_le_pow_right (by decide) q
      have : 1 * 2 ^ j ≤ M * 2 ^ j := Nat.mul_le_mul_right _ hM
      omega
    · exact q
  have hj2 : j ≤ 30 := by
    rcases Nat.lt_or_ge 30 j with q | q
    · have e : j = 31 := by omega
      have h1 : pM u n < 2147483648 := by unfold pM; omega
      rw [e] at e1
      have : 1 * 2 ^ 31 ≤ M * 2 ^ 31 := Nat.mul_le_mul_right _ hM
      omega
    · exact q
  unfold uv
  rw [← e1, Nat.mul_assoc, ← Nat.pow_add, show j + (pE u n + 150).toNat = (E + 120).toNat + 30 from by omega, Nat.pow_add, ← Nat.mul_assoc]
  exact Nat.mul_div_cancel _ (by decide)
/-- a pattern's value, in units of 2^-120 -/
noncomputable def pvI (p n : Nat) : Int := if p = 0 then 0 else if p < 2 ^ (n - 1) then (uv p n : Int) else -(uv (2 ^ n - p) n : Int)
theorem lk_pv {p n M : Nat} {s E : Int} (h : lk p n s M E) (hp : p ≠ 2 ^ (n - 1)) : (p = 0 ∧ s = 0 ∧ M = 0 ∧ E = 0 ∧ pvI p n = 0) ∨ (p ≠ 0 ∧ (s = 1 ∨ s = -1) ∧ 0 < M ∧ -120 ≤ E ∧ E ≤ 120 ∧ pvI p n = s * ((M * 2 ^ (E + 120).toNat : Nat) : Int) ∧ md (pmag p n) n M E ∧ (s = -1 ↔ 2 ^ (n - 1) < p)) := by
  rcases h with ⟨h1, h2, h3, h4⟩ | ⟨h1, h2, h3, h4, h5, h6, h7⟩ | ⟨h1, h3, h4, h5, h6, h7⟩ | ⟨h1, -, -⟩
  · left; exact ⟨h1, h2, h3, h4, by unfold pvI; rw [if_pos h1]⟩
  · right
    refine ⟨by omega, Or.inl h3, h5, h6, h7, ?_, ?_, ?_⟩
    · unfold pvI; rw [if_neg (by omega), if_pos h2, uv_md h4 h6 h5, h3, Int.one_mul]
    · unfold pmag; rw [if_neg (by omega)]; exact h4
    · rw [h3]; omega
  · have := p_pos (n - 1)
    right
    refine ⟨by omega, Or.inr h3, h5, h6, h7, ?_, ?_, ?_⟩
    · unfold pvI; rw [if_neg (by omega), if_neg (by omega), uv_md h4 h6 h5, h3, Int.neg_mul, Int.one_mul]
    · unfold pmag; rw [if_pos h1]; exact h4
    · rw [h3]; exact ⟨fun _ => h1, fun _ => rfl⟩
  · exact absurd h1 hp
