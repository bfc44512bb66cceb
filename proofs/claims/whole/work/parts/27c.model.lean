/-! The reference: comparing and rounding -/
theorem cmpz_neg {a b : Nat} (h : a < b) : cmpz a b = -1 := by unfold cmpz; rw [if_pos h]
theorem cmpz_pos {a b : Nat} (h : b < a) : cmpz a b = 1 := by unfold cmpz; rw [if_neg (by omega), if_neg (by omega)]
theorem nb_ord {a b x y : Nat} (hb : b ≠ 0) (h : nb a + x < nb b + y) : a * 2 ^ x < b * 2 ^ y := by
  have h1 := Nat.mul_lt_mul_of_pos_right (nb_hi a) (p_pos x)
  have h2 := Nat.mul_le_mul_right (2 ^ y) (nb_lo hb)
  rw [← Nat.pow_add] at h1 h2
  have h3 := nb_pos hb
  have h4 : 2 ^ (nb a + x) ≤ 2 ^ (nb b - 1 + y) := Nat.pow_le_pow_right (by decide) (by omega)
  omega
theorem nb_mp {b m i : Nat} (hm : m < 4294967296) : nb (b * m ^ i) ≤ nb b + 32 * i := by
  apply nb_le
  have h1 : m ^ i ≤ (2 ^ 32) ^ i := Nat.pow_le_pow_left (by omega) i
  rw [← Nat.pow_mul] at h1
  have h2 := nb_hi b
  rw [Nat.pow_add]
  have h3 := Nat.mul_le_mul_left b h1
  have h4 := Nat.mul_lt_mul_of_pos_right h2 (p_pos (32 * i))
  omega
theorem big_of {v k : Nat} (h : nb v ≤ k) (hk : k ≤ 12000) : v < 2 ^ 12000 := Nat.lt_of_lt_of_le (nb_hi v) (Nat.pow_le_pow_right (by decide) (by omega))
theorem big_sh {v k : Nat} (h : nb v + k ≤ 12000) : v * 2 ^ k < 2 ^ 12000 := nb_mul_lt h
set_option maxHeartbeats 8000000 in
set_option maxRecDepth 100000 in
theorem p_mcompare {d n a b m rt : Nat} {g vs vm ve sg e th tp wr at9 sz dg pw tn fm : Int} {h : zH} (h_47 : h 47 = oModel vs vm ve sg e (rt:Nat) th tp wr at9 sz dg pw tn fm) (hA : ND h 50 51 a) (hB : ND h 52 53 b) (hL : NS h 54 55) (hR : NS h 56 57) (ha0 : a ≠ 0) (ha : nb a ≤ 6000) (hb0 : b ≠ 0) (hb : nb b ≤ 5700) (hm : 0 < m ∧ m < 4294967296) (hrt : 1 ≤ rt ∧ rt ≤ 8) (he : -5000 ≤ e ∧ e ≤ 5000) (hg : -300 ≤ g ∧ g ≤ 300) (hd : 2 ≤ d) :
    zM yX11_compare cX11_compare 6 (some .int) d 0 0 [.ref 47, .long (jL (m:Nat)), .int (iI g)] h n (fun r h' n' => r = some (.int (iI (cpr a b e rt m g))) ∧ n' = n ∧ NS h' 54 55 ∧ NS h' 56 57 ∧ zFr [54, 55, 56, 57] h h') := by
  have hgr := mul_r (a := g) (b := (rt : Int)) (A := 300) (B := 8) (by omega) (by omega)
  obtain ⟨s, es⟩ : ∃ s, e - g * rt = s := ⟨_, rfl⟩
  have hs : -8000 ≤ s ∧ s ≤ 8000 := by omega
  obtain ⟨R, eR⟩ : ∃ R, b * m ^ rt = R := ⟨_, rfl⟩
  have hR0 : R ≠ 0 := by rw [← eR]; exact Nat.mul_ne_zero hb0 (by have := Nat.pow_pos (n := rt) hm.1; omega)
  have hnR : nb R ≤ 6000 := by have := nb_mp (b := b) (m := m) (i := rt) hm.2; rw [eR] at this; omega
  have hnR1 := nb_pos hR0
  have hna1 := nb_pos ha0
  have ec : cpr a b e rt m g = cmpz (a * 2 ^ s.toNat) (R * 2 ^ (-s).toNat) := by unfold cpr; rw [es, eR]
  refine zM_of zyX11_compare rfl (Nat.le_of_ble_eq_true rfl) (fun X hX => ?_)
  have fr : zFr [54, 55, 56, 57] h h := zFr.rf
  refine v_aload_n dX11_compare_0 rfl ?_
  refine v_get fX11_54 dX11_compare_1 h_47 (by decide) rfl ?_
  refine v_aload_n dX11_compare_4 rfl ?_
  refine v_get fX11_35 dX11_compare_5 h_47 (by decide) rfl ?_
  obtain ⟨_, _, h_54, -⟩ := id hL
  refine v_cV (av := [.ref 50]) (st := []) zyX9_copy lX11_57 h_54 rfl (p_ncopy (d := 1) hL hA (by decide)) dX11_compare_8 rfl rfl (Nat.le_of_ble_eq_true rfl) (by omega) (Nat.le_of_ble_eq_true rfl) (Nat.le_of_ble_eq_true rfl) (Or.inl (fun _ _ _ q => ZN q)) (fun r9 G1 n9 q9 => ?_)
  obtain ⟨rfl, q9n, hL, fr9⟩ := q9
  have q9n := q9n.symm
  subst q9n
  have h_47 := (fr9 47 (by decide)).trans h_47
  have hA := hA.fr fr9 (by decide) (by decide)
  have hB := hB.fr fr9 (by decide) (by decide)
  have hR := hR.fr fr9 (by decide) (by decide)
  have fr := fr.tr fr9 (by decide)
  refine v_aload_n dX11_compare_11 rfl ?_
  refine v_get fX11_61 dX11_compare_12 h_47 (by decide) rfl ?_
  refine v_aload_n dX11_compare_15 rfl ?_
  refine v_get fX11_45 dX11_compare_16 h_47 (by decide) rfl ?_
  obtain ⟨_, _, h_56, -⟩ := id hR
  refine v_cV (av := [.ref 52]) (st := []) zyX9_copy lX11_57 h_56 rfl (p_ncopy (d := 1) hR hB (by decide)) dX11_compare_19 rfl rfl (Nat.le_of_ble_eq_true rfl) (by omega) (Nat.le_of_ble_eq_true rfl) (Nat.le_of_ble_eq_true rfl) (Or.inl (fun _ _ _ q => ZN q)) (fun r9 G2 n9 q9 => ?_)
  obtain ⟨rfl, q9n, hR, fr8⟩ := q9
  have q9n := q9n.symm
  subst q9n
  have h_47 := (fr8 47 (by decide)).trans h_47
  have hA := hA.fr fr8 (by decide) (by decide)
  have hB := hB.fr fr8 (by decide) (by decide)
  have hL := hL.fr fr8 (by decide) (by decide)
  have fr := fr.tr fr8 (by decide)
  have go : ∀ (H : zH) (i : Int), H 47 = oModel vs vm ve sg e (rt:Nat) th tp wr at9 sz dg pw tn fm → ND H 54 55 a → ND H 56 57 R → zFr [54, 55, 56, 57] h H → (zV X (fun r h' n' => r = some (.int (iI (cpr a b e rt m g))) ∧ n' = n ∧ NS h' 54 55 ∧ NS h' 56 57 ∧ zFr [54, 55, 56, 57] h h') cX11_compare 6 RX11 (some .int) d 0 0 49 [(0, .ref 47), (1, .long (jL (m:Nat))), (3, .int (iI g)), (4, .int (iI i))] [] H n 0 0) := by
    intro H i h_47 hL hR fr
    rw [ec]
    refine v_aload_n dX11_compare_49 rfl ?_
    refine v_get fX11_48 dX11_compare_50 h_47 (by decide) rfl ?_
    refine v_iload_n dX11_compare_53 rfl ?_
    refine v_aload_n dX11_compare_54 rfl ?_
    refine v_get fX11_51 dX11_compare_55 h_47 (by decide) rfl ?_
    refine w_imul dX11_compare_58 ?_
    refine w_isub dX11_compare_59 ?_
    refine w_ei s es ?_
    refine v_istore (i := 4) (lv' := [(4, .int (iI s)), (0, .ref 47), (1, .long (jL (m:Nat))), (3, .int (iI g))]) dX11_compare_60 (by decide) rfl ?_
    refine v_aload_n dX11_compare_62 rfl ?_
    refine v_get fX11_54 dX11_compare_63 h_47 (by decide) rfl ?_
    obtain ⟨_, _, h_54, -⟩ := id hL
    refine v_cV (av := []) (st := []) zyX9_bits lX11_67 h_54 rfl (p_nbits (d := 1) hL (by decide)) dX11_compare_66 rfl rfl (Nat.le_of_ble_eq_true rfl) (by omega) (Nat.le_of_ble_eq_true rfl) (Nat.le_of_ble_eq_true rfl) (Or.inl (fun _ _ _ q => ZN q)) (fun r9 K1 n9 q9 => ?_)
    obtain ⟨rfl, q9n, q9h⟩ := q9
    have q9n := q9n.symm
    subst q9n
    have q9h := q9h.symm
    subst q9h
    refine v_iload dX11_compare_69 rfl ?_
    refine w_iadd dX11_compare_71 ?_
    refine v_aload_n dX11_compare_72 rfl ?_
    refine v_get fX11_61 dX11_compare_73 h_47 (by decide) rfl ?_
    obtain ⟨_, _, h_56, -⟩ := id hR
    refine v_cV (av := []) (st := [.int (iI ((nb a:Nat) + s))]) zyX9_bits lX11_67 h_56 rfl (p_nbits (d := 1) hR (by decide)) dX11_compare_76 rfl rfl (Nat.le_of_ble_eq_true rfl) (by omega) (Nat.le_of_ble_eq_true rfl) (Nat.le_of_ble_eq_true rfl) (Or.inl (fun _ _ _ q => ZN q)) (fun r9 K2 n9 q9 => ?_)
    obtain ⟨rfl, q9n, q9h⟩ := q9
    have q9n := q9n.symm
    subst q9n
    have q9h := q9h.symm
    subst q9h
    refine w_isub dX11_compare_79 ?_
    refine v_istore (i := 5) (lv' := [(5, .int (iI (((nb a:Nat) + s) - (nb R:Nat)))), (4, .int (iI s)), (0, .ref 47), (1, .long (jL (m:Nat))), (3, .int (iI g))]) dX11_compare_80 (by decide) rfl ?_
    refine v_iload dX11_compare_82 rfl ?_
    refine w_if_eq 98 dX11_compare_84 (by decide) (by omega) (fun c1 => ?_) (fun c1 => ?_)
    · have j125 : ∀ (H : zH), H 47 = oModel vs vm ve sg e (rt:Nat) th tp wr at9 sz dg pw tn fm → ND H 54 55 (a * 2 ^ s.toNat) → ND H 56 57 (R * 2 ^ (-s).toNat) → zFr [54, 55, 56, 57] h H → zV X (fun r h' n' => r = some (.int (iI (cmpz (a * 2 ^ s.toNat) (R * 2 ^ (-s).toNat)))) ∧ n' = n ∧ NS h' 54 55 ∧ NS h' 56 57 ∧ zFr [54, 55, 56, 57] h h') cX11_compare 6 RX11 (some .int) d 0 0 125 [(0, .ref 47)] [] H n 0 0 := by
        intro H h_47 hL hR fr
        refine v_aload_n dX11_compare_125 rfl ?_
        refine v_get fX11_54 dX11_compare_126 h_47 (by decide) rfl ?_
        refine v_aload_n dX11_compare_129 rfl ?_
        refine v_get fX11_61 dX11_compare_130 h_47 (by decide) rfl ?_
        obtain ⟨_, _, h_54, -⟩ := id hL
        refine v_cV (av := [.ref 56]) (st := []) zyX9_compare lX11_75 h_54 rfl (p_ncompare (d := 1) hL hR) dX11_compare_133 rfl rfl (Nat.le_of_ble_eq_true rfl) (by omega) (Nat.le_of_ble_eq_true rfl) (Nat.le_of_ble_eq_true rfl) (Or.inl (fun _ _ _ q => ZN q)) (fun r9 K1 n9 q9 => ?_)
        obtain ⟨rfl, q9n, q9h⟩ := q9
        have q9n := q9n.symm
        subst q9n
        have q9h := q9h.symm
        subst q9h
        exact v_iret dX11_compare_136 trivial (Nat.le_of_ble_eq_true rfl) (Nat.le_of_ble_eq_true rfl) ⟨rfl, rfl, hL.ns, hR.ns, fr⟩
      refine v_iload dX11_compare_98 rfl ?_
      refine w_if_le 115 dX11_compare_100 (by decide) (by omega) (fun c2 => ?_) (fun c2 => ?_)
      · skip
        refine v_aload_n dX11_compare_115 rfl ?_
        refine v_get fX11_61 dX11_compare_116 h_47 (by decide) rfl ?_
        refine v_iload dX11_compare_119 rfl ?_
        refine w_ineg dX11_compare_121 ?_
        refine w_ei ((-s).toNat:Nat) (by omega) ?_
        obtain ⟨_, _, h_56, -⟩ := id hR
        refine v_cV (av := [.int (iI ((-s).toNat:Nat))]) (st := []) zyX9_shift lX11_71 h_56 rfl (p_nshift (d := 1) hR (by decide) (by omega) (big_sh (by omega))) dX11_compare_122 rfl rfl (Nat.le_of_ble_eq_true rfl) (by omega) (Nat.le_of_ble_eq_true rfl) (Nat.le_of_ble_eq_true rfl) (Or.inl (fun _ _ _ q => ZN q)) (fun r9 G3 n9 q9 => ?_)
        obtain ⟨rfl, q9n, hR, fr9⟩ := q9
        have q9n := q9n.symm
        subst q9n
        refine w_sub (lv2 := [(0, .ref 47)]) [2] rfl ?_
        exact j125 _ ((fr9 47 (by decide)).trans h_47) (by rw [show s.toNat = 0 from by omega, Nat.pow_zero, Nat.mul_one]; exact hL.fr fr9 (by decide) (by decide)) hR (fr.tr fr9 (by decide))
      · skip
        refine v_aload_n dX11_compare_103 rfl ?_
        refine v_get fX11_54 dX11_compare_104 h_47 (by decide) rfl ?_
        refine v_iload dX11_compare_107 rfl ?_
        refine w_ei (s.toNat:Nat) (by omega) ?_
        obtain ⟨_, _, h_54, -⟩ := id hL
        refine v_cV (av := [.int (iI (s.toNat:Nat))]) (st := []) zyX9_shift lX11_71 h_54 rfl (p_nshift (d := 1) hL (by decide) (by omega) (big_sh (by omega))) dX11_compare_109 rfl rfl (Nat.le_of_ble_eq_true rfl) (by omega) (Nat.le_of_ble_eq_true rfl) (Nat.le_of_ble_eq_true rfl) (Or.inl (fun _ _ _ q => ZN q)) (fun r9 G3 n9 q9 => ?_)
        obtain ⟨rfl, q9n, hL, fr9⟩ := q9
        have q9n := q9n.symm
        subst q9n
        refine v_goto 125 dX11_compare_112 (by decide) ?_
        refine w_sub (lv2 := [(0, .ref 47)]) [2] rfl ?_
        exact j125 _ ((fr9 47 (by decide)).trans h_47) hL (by rw [show (-s).toNat = 0 from by omega, Nat.pow_zero, Nat.mul_one]; exact hR.fr fr9 (by decide) (by decide)) (fr.tr fr9 (by decide))
    · skip
      refine v_iload dX11_compare_87 rfl ?_
      refine w_if_ge 96 dX11_compare_89 (by decide) (by omega) (fun c2 => ?_) (fun c2 => ?_)
      · have e9 := cmpz_pos (nb_ord (a := R) (b := a) (x := (-s).toNat) (y := s.toNat) ha0 (by omega))
        refine v_iconst (iI 1) dX11_compare_96 rfl ?_
        exact v_iret dX11_compare_97 trivial (Nat.le_of_ble_eq_true rfl) (Nat.le_of_ble_eq_true rfl) ⟨by rw [e9], rfl, hL.ns, hR.ns, fr⟩
      · have e9 := cmpz_neg (nb_ord (a := a) (b := R) (x := s.toNat) (y := (-s).toNat) hR0 (by omega))
        refine v_iconst (iI (-1)) dX11_compare_92 rfl ?_
        refine v_goto 97 dX11_compare_93 (by decide) ?_
        exact v_iret dX11_compare_97 trivial (Nat.le_of_ble_eq_true rfl) (Nat.le_of_ble_eq_true rfl) ⟨by rw [e9], rfl, hL.ns, hR.ns, fr⟩
  have loop : ∀ (k i : Nat) (y : Int) (H : zH), i + k = rt → y = i → H 47 = oModel vs vm ve sg e (rt:Nat) th tp wr at9 sz dg pw tn fm → ND H 54 55 a → ND H 56 57 (b * m ^ i) → zFr [54, 55, 56, 57] h H → (zV X (fun r h' n' => r = some (.int (iI (cpr a b e rt m g))) ∧ n' = n ∧ NS h' 54 55 ∧ NS h' 56 57 ∧ zFr [54, 55, 56, 57] h h') cX11_compare 6 RX11 (some .int) d 0 0 25 [(0, .ref 47), (1, .long (jL (m:Nat))), (3, .int (iI g)), (4, .int (iI y))] [] H n 0 0) := by
    intro k
    induction k with
    | zero =>
      intro i y H hi ey h_47 hL hR fr
      have ei : i = rt := by omega
      rw [ei, eR] at hR
      refine v_iload dX11_compare_25 rfl ?_
      refine v_aload_n dX11_compare_27 rfl ?_
      refine v_get fX11_51 dX11_compare_28 h_47 (by decide) rfl ?_
      refine w_icmp_ge 49 dX11_compare_31 (by decide) (by omega) (by omega) (fun c1 => ?_) (fun c1 => ?_)
      · exact go _ _ h_47 hL hR fr
      · exact absurd c1 (by omega)
    | succ k ih =>
      intro i y H hi ey h_47 hL hR fr
      have hnb := nb_mp (b := b) (m := m) (i := i) hm.2
      refine v_iload dX11_compare_25 rfl ?_
      refine v_aload_n dX11_compare_27 rfl ?_
      refine v_get fX11_51 dX11_compare_28 h_47 (by decide) rfl ?_
      refine w_icmp_ge 49 dX11_compare_31 (by decide) (by omega) (by omega) (fun c1 => ?_) (fun c1 => ?_)
      · exact absurd c1 (by omega)
      · skip
        refine v_aload_n dX11_compare_34 rfl ?_
        refine v_get fX11_61 dX11_compare_35 h_47 (by decide) rfl ?_
        refine v_lload_n dX11_compare_38 rfl ?_
        refine v_iconst (iI 0) dX11_compare_39 rfl ?_
        obtain ⟨_, _, h_56, -⟩ := id hR
        refine v_cV (av := [.long (jL (m:Nat)), .int (iI 0)]) (st := []) zyX9_times lX11_64 h_56 rfl (p_ntimes (d := 1) (y := 0) hR hm.2 (by decide) (big_of hnb (by omega))) dX11_compare_40 rfl rfl (Nat.le_of_ble_eq_true rfl) (by omega) (Nat.le_of_ble_eq_true rfl) (Nat.le_of_ble_eq_true rfl) (Or.inl (fun _ _ _ q => ZN q)) (fun r9 G3 n9 q9 => ?_)
        obtain ⟨rfl, q9n, hRs, hR, fr9⟩ := q9
        have q9n := q9n.symm
        subst q9n
        have hR := hR (by omega)
        rw [Nat.add_zero, Nat.mul_assoc, ← Nat.pow_succ] at hR
        refine w_iinc (lv' := [(4, .int (iI (y + 1))), (0, .ref 47), (1, .long (jL (m:Nat))), (3, .int (iI g))]) dX11_compare_43 rfl (by decide) rfl ?_
        refine v_goto 25 dX11_compare_46 (by decide) ?_
        refine w_sub (lv2 := [(0, .ref 47), (1, .long (jL (m:Nat))), (3, .int (iI g)), (4, .int (iI (y + 1)))]) [1, 2, 3, 0] rfl ?_
        exact ih (i + 1) (y + 1) _ (by omega) (by omega) ((fr9 47 (by decide)).trans h_47) (hL.fr fr9 (by decide) (by decide)) hR (fr.tr fr9 (by decide))
  refine v_iconst (iI 0) dX11_compare_22 rfl ?_
  refine v_istore (i := 4) (lv' := [(4, .int (iI 0)), (0, .ref 47), (1, .long (jL (m:Nat))), (3, .int (iI g))]) dX11_compare_23 (by decide) rfl ?_
  refine w_sub (lv2 := [(0, .ref 47), (1, .long (jL (m:Nat))), (3, .int (iI g)), (4, .int (iI 0))]) [1, 2, 3, 0] rfl ?_
  exact loop rt 0 0 _ (by omega) rfl h_47 hL (by rw [Nat.pow_zero, Nat.mul_one]; exact hR) fr
/-- the value that the reference rounds is (a 2^e / b)^(1/rt): how it stands to a pattern -/
noncomputable def CP (a b : Nat) (e : Int) (rt u w : Nat) : Int := cpr a b e rt (pM u w) (pE u w)
set_option maxHeartbeats 8000000 in
set_option maxRecDepth 100000 in
theorem p_compareTo {d n a b rt u w : Nat} {vs vm ve sg e th tp wr at9 sz dg pw tn fm : Int} {h : zH} (h_47 : h 47 = oModel vs vm ve sg e (rt:Nat) th tp wr at9 sz dg pw tn fm) (hA : ND h 50 51 a) (hB : ND h 52 53 b) (hL : NS h 54 55) (hR : NS h 56 57) (ha0 : a ≠ 0) (ha : nb a ≤ 6000) (hb0 : b ≠ 0) (hb : nb b ≤ 5700) (hrt : 1 ≤ rt ∧ rt ≤ 8) (he : -5000 ≤ e ∧ e ≤ 5000) (hw : 3 ≤ w ∧ w ≤ 33) (hu0 : 0 < u) (hu : u < 2 ^ (w - 1)) (hd : 3 ≤ d) :
    zM yX11_compareTo cX11_compareTo 4 (some .int) d 0 0 [.ref 47, .long (jL (u:Nat)), .int (iI (w:Nat))] h n (fun r h' n' => r = some (.int (iI (CP a b e rt u w))) ∧ n' = n ∧ (∃ vs vm ve, h' 47 = oModel vs vm ve sg e (rt:Nat) th tp wr at9 sz dg pw tn fm) ∧ NS h' 54 55 ∧ NS h' 56 57 ∧ zFr [47, 54, 55, 56, 57] h h') := by
  refine zM_of zyX11_compareTo rfl (Nat.le_of_ble_eq_true rfl) (fun X hX => ?_)
  have fr : zFr [47, 54, 55, 56, 57] h h := zFr.rf
  refine v_aload_n dX11_compareTo_0 rfl ?_
  refine v_lload_n dX11_compareTo_1 rfl ?_
  refine v_iload_n dX11_compareTo_2 rfl ?_
  refine v_cV (av := [.long (jL (u:Nat)), .int (iI (w:Nat))]) (st := []) zyX11_decode lX11_28 h_47 rfl (p_mdecode (d := 2) h_47 hw hu0 hu (by decide)) dX11_compareTo_3 rfl rfl (Nat.le_of_ble_eq_true rfl) (by omega) (Nat.le_of_ble_eq_true rfl) (Nat.le_of_ble_eq_true rfl) (Or.inl (fun _ _ _ q => ZN q)) (fun r9 G1 n9 q9 => ?_)
  obtain ⟨rfl, q9n, ⟨M, E, h_47, hmd, hM1, hM2, hE1, hE2, -⟩, fr9⟩ := q9
  have q9n := q9n.symm
  subst q9n
  have hA := hA.fr fr9 (by decide) (by decide)
  have hB := hB.fr fr9 (by decide) (by decide)
  have hL := hL.fr fr9 (by decide) (by decide)
  have hR := hR.fr fr9 (by decide) (by decide)
  have fr := fr.tr fr9 (by decide)
  refine v_aload_n dX11_compareTo_6 rfl ?_
  refine v_aload_n dX11_compareTo_7 rfl ?_
  refine v_get fX11_7 dX11_compareTo_8 h_47 (by decide) rfl ?_
  refine v_aload_n dX11_compareTo_11 rfl ?_
  refine v_get fX11_13 dX11_compareTo_12 h_47 (by decide) rfl ?_
  refine v_cV (av := [.long (jL (M:Nat)), .int (iI E)]) (st := []) zyX11_compare lX11_79 h_47 rfl (p_mcompare (d := 2) h_47 hA hB hL hR ha0 ha hb0 hb ⟨hM1, hM2⟩ hrt he ⟨hE1, hE2⟩ (by decide)) dX11_compareTo_15 rfl rfl (Nat.le_of_ble_eq_true rfl) (by omega) (Nat.le_of_ble_eq_true rfl) (Nat.le_of_ble_eq_true rfl) (Or.inl (fun _ _ _ q => ZN q)) (fun r9 G2 n9 q9 => ?_)
  obtain ⟨rfl, q9n, hL, hR, fr8⟩ := q9
  have q9n := q9n.symm
  subst q9n
  have h_47 := (fr8 47 (by decide)).trans h_47
  exact v_iret dX11_compareTo_18 trivial (Nat.le_of_ble_eq_true rfl) (Nat.le_of_ble_eq_true rfl) ⟨by unfold CP; rw [cpr_md hmd], rfl, ⟨_, _, _, h_47⟩, hL, hR, fr.tr fr8 (by decide)⟩
theorem CP_r {a b : Nat} {e : Int} {rt u w : Nat} : -1 ≤ CP a b e rt u w ∧ CP a b e rt u w ≤ 1 := by unfold CP cpr; exact cmpz_r _ _
/-- the search between lo and hi -/
def bsr (f : Nat → Int) : Nat → Nat → Nat → Nat
  | 0, lo, _ => lo
  | m + 1, lo, hi => if hi - lo ≤ 1 then lo else if 0 ≤ f ((lo + hi) / 2) then bsr f m ((lo + hi) / 2) hi else bsr f m lo ((lo + hi) / 2)
theorem bsr_spec {f : Nat → Int} : ∀ (m lo hi : Nat), lo < hi → hi - lo ≤ m + 1 → 0 ≤ f lo → f hi < 0 → lo ≤ bsr f m lo hi ∧ bsr f m lo hi < hi ∧ 0 ≤ f (bsr f m lo hi) ∧ f (bsr f m lo hi + 1) < 0
  | 0, lo, hi, h1, h2, h3, h4 => by
    have e : hi = lo + 1 := by omega
    subst e
    exact ⟨Nat.le_refl _, h1, h3, h4⟩
  | m + 1, lo, hi, h1, h2, h3, h4 => by
    unfold bsr
    by_cases q : hi - lo ≤ 1
    · rw [if_pos q]
      have e : hi = lo + 1 := by omega
      subst e
      exact ⟨Nat.le_refl _, h1, h3, h4⟩
    · rw [if_neg q]
      by_cases q2 : 0 ≤ f ((lo + hi) / 2)
      · rw [if_pos q2]
        have := bsr_spec (f := f) m ((lo + hi) / 2) hi (by omega) (by omega) q2 h4
        exact ⟨by omega, this.2.1, this.2.2⟩
      · rw [if_neg q2]
        have := bsr_spec (f := f) m lo ((lo + hi) / 2) (by omega) (by omega) h3 (by omega)
        exact ⟨this.1, by omega, this.2.2⟩
/-- the pattern that the reference's rounding gives, C saying how the value stands to a pattern -/
def rdS (C : Nat → Nat → Int) (n : Nat) : Nat := if C 1 n ≤ 0 then 1 else if 0 ≤ C (2 ^ (n - 1) - 1) n then 2 ^ (n - 1) - 1 else if C (2 * bsr (fun u => C u n) (2 ^ (n - 1)) 1 (2 ^ (n - 1) - 1) + 1) (n + 1) < 0 ∨ (C (2 * bsr (fun u => C u n) (2 ^ (n - 1)) 1 (2 ^ (n - 1) - 1) + 1) (n + 1) = 0 ∧ bsr (fun u => C u n) (2 ^ (n - 1)) 1 (2 ^ (n - 1) - 1) % 2 = 0) then bsr (fun u => C u n) (2 ^ (n - 1)) 1 (2 ^ (n - 1) - 1) else bsr (fun u => C u n) (2 ^ (n - 1)) 1 (2 ^ (n - 1) - 1) + 1
set_option maxHeartbeats 8000000 in
set_option maxRecDepth 100000 in
theorem p_roundedSize {d n a b rt w : Nat} {vs vm ve sg e th tp wr at9 sz dg pw tn fm : Int} {h : zH} (h_47 : h 47 = oModel vs vm ve sg e (rt:Nat) th tp wr at9 sz dg pw tn fm) (hA : ND h 50 51 a) (hB : ND h 52 53 b) (hL : NS h 54 55) (hR : NS h 56 57) (ha0 : a ≠ 0) (ha : nb a ≤ 6000) (hb0 : b ≠ 0) (hb : nb b ≤ 5700) (hrt : 1 ≤ rt ∧ rt ≤ 8) (he : -5000 ≤ e ∧ e ≤ 5000) (hw : 3 ≤ w ∧ w ≤ 32) (hd : 4 ≤ d) :
    zM yX11_roundedSize cX11_roundedSize 10 (some .long) d 0 0 [.ref 47, .int (iI (w:Nat))] h n (fun r h' n' => r = some (.long (jL (rdS (CP a b e rt) w : Nat))) ∧ n' = n ∧ (∃ vs vm ve, h' 47 = oModel vs vm ve sg e (rt:Nat) th tp wr at9 sz dg pw tn fm) ∧ NS h' 54 55 ∧ NS h' 56 57 ∧ zFr [47, 54, 55, 56, 57] h h') := by
  obtain ⟨q, eq⟩ : ∃ q, 2 ^ (w - 1) = q := ⟨_, rfl⟩
  have hq2 : q ≤ 2147483648 := by rw [← eq]; exact Nat.pow_le_pow_right (show 0 < 2 by decide) (show w - 1 ≤ 31 by omega)
  have hq3 : 4 ≤ q := by rw [← eq]; exact Nat.pow_le_pow_right (show 0 < 2 by decide) (show 2 ≤ w - 1 by omega)
  have hqw : 2 ^ w = 2 * q := by rw [← eq, Nat.mul_comm, ← Nat.pow_succ]; congr 1; omega
  obtain ⟨C, eC⟩ : ∃ C, CP a b e rt = C := ⟨_, rfl⟩
  have hCr : ∀ u w, -1 ≤ C u w ∧ C u w ≤ 1 := fun u w => by rw [← eC]; exact CP_r
  obtain ⟨B, eB⟩ : ∃ B, bsr (fun u => C u w) q 1 (q - 1) = B := ⟨_, rfl⟩
  have er : rdS (CP a b e rt) w = if C 1 w ≤ 0 then 1 else if 0 ≤ C (q - 1) w then q - 1 else if C (2 * B + 1) (w + 1) < 0 ∨ (C (2 * B + 1) (w + 1) = 0 ∧ B % 2 = 0) then B else B + 1 := by
    unfold rdS; rw [eC, eq, eB]
  refine zM_of zyX11_roundedSize rfl (Nat.le_of_ble_eq_true rfl) (fun X hX => ?_)
  have fr : zFr [47, 54, 55, 56, 57] h h := zFr.rf
  have cmp : ∀ (H : zH) (u w2 : Nat), 3 ≤ w2 → w2 ≤ 33 → 0 < u → u < 2 ^ (w2 - 1) → (∃ vs vm ve, H 47 = oModel vs vm ve sg e (rt:Nat) th tp wr at9 sz dg pw tn fm) → ND H 50 51 a → ND H 52 53 b → NS H 54 55 → NS H 56 57 → zM yX11_compareTo cX11_compareTo 4 (some .int) 3 0 0 [.ref 47, .long (jL (u:Nat)), .int (iI (w2:Nat))] H n (fun r h' n' => r = some (.int (iI (C u w2))) ∧ n' = n ∧ (∃ vs vm ve, h' 47 = oModel vs vm ve sg e (rt:Nat) th tp wr at9 sz dg pw tn fm) ∧ NS h' 54 55 ∧ NS h' 56 57 ∧ zFr [47, 54, 55, 56, 57] H h') := by
    intro H u w2 hw1 hw2 hu0 hu ⟨vs, vm, ve, h_47⟩ hA hB hL hR
    rw [← eC]
    exact p_compareTo h_47 hA hB hL hR ha0 ha hb0 hb hrt he ⟨hw1, hw2⟩ hu0 hu (by decide)
  have kA : ∀ {H H' : zH}, zFr [47, 54, 55, 56, 57] H H' → ND H 50 51 a → ND H' 50 51 a := fun f z => z.fr f (by decide) (by decide)
  have kB : ∀ {H H' : zH}, zFr [47, 54, 55, 56, 57] H H' → ND H 52 53 b → ND H' 52 53 b := fun f z => z.fr f (by decide) (by decide)
  refine v_lconst (jL 1) dX11_roundedSize_0 rfl ?_
  refine v_iload_n dX11_roundedSize_1 rfl ?_
  refine v_iconst (iI 1) dX11_roundedSize_2 rfl ?_
  refine w_isub dX11_roundedSize_3 ?_
  refine w_lshl dX11_roundedSize_4 (w - 1) (2 ^ (w - 1)) rfl (by omega) (by omega) ?_
  refine w_el (q:Nat) (by rw [ip, eq]) ?_
  refine v_lconst (jL 1) dX11_roundedSize_5 rfl ?_
  refine w_lsub dX11_roundedSize_6 ?_
  refine w_el (q - 1:Nat) (by omega) ?_
  refine v_lstore_n (i := 2) (lv' := [(2, .long (jL (q - 1:Nat))), (0, .ref 47), (1, .int (iI (w:Nat)))]) dX11_roundedSize_7 rfl (by decide) rfl ?_
  refine v_aload_n dX11_roundedSize_8 rfl ?_
  refine v_lconst (jL 1) dX11_roundedSize_9 rfl ?_
  refine v_iload_n dX11_roundedSize_10 rfl ?_
  have r1 := hCr 1 w
  refine v_cV (av := [.long (jL 1), .int (iI (w:Nat))]) (st := []) zyX11_compareTo lX11_86 h_47 rfl (cmp h 1 w (by omega) (by omega) (by decide) (by rw [eq]; omega) ⟨_, _, _, h_47⟩ hA hB hL hR) dX11_roundedSize_11 rfl rfl (Nat.le_of_ble_eq_true rfl) (by omega) (Nat.le_of_ble_eq_true rfl) (Nat.le_of_ble_eq_true rfl) (Or.inl (fun _ _ _ q => ZN q)) (fun r9 G1 n9 q9 => ?_)
  obtain ⟨rfl, q9n, hM, hL, hR, fr9⟩ := q9
  have q9n := q9n.symm
  subst q9n
  have hA := kA fr9 hA
  have hB := kB fr9 hB
  have fr := fr.tr fr9 (by decide)
  refine w_if_gt 19 dX11_roundedSize_14 (by decide) (by omega) (fun c1 => ?_) (fun c1 => ?_)
  · have r2 := hCr (q - 1) w
    obtain ⟨_, _, _, h_47⟩ := id hM
    refine v_aload_n dX11_roundedSize_19 rfl ?_
    refine v_lload_n dX11_roundedSize_20 rfl ?_
    refine v_iload_n dX11_roundedSize_21 rfl ?_
    refine v_cV (av := [.long (jL (q - 1:Nat)), .int (iI (w:Nat))]) (st := []) zyX11_compareTo lX11_86 h_47 rfl (cmp G1 (q - 1) w (by omega) (by omega) (by omega) (by rw [eq]; omega) hM hA hB hL hR) dX11_roundedSize_22 rfl rfl (Nat.le_of_ble_eq_true rfl) (by omega) (Nat.le_of_ble_eq_true rfl) (Nat.le_of_ble_eq_true rfl) (Or.inl (fun _ _ _ q => ZN q)) (fun r9 G2 n9 q9 => ?_)
    obtain ⟨rfl, q9n, hM, hL, hR, fr8⟩ := q9
    have q9n := q9n.symm
    subst q9n
    have hA := kA fr8 hA
    have hB := kB fr8 hB
    have fr := fr.tr fr8 (by decide)
    refine w_if_lt 30 dX11_roundedSize_25 (by decide) (by omega) (fun c2 => ?_) (fun c2 => ?_)
    · have fin : ∀ (H : zH) (hi : Nat) (mid : Int), (∃ vs vm ve, H 47 = oModel vs vm ve sg e (rt:Nat) th tp wr at9 sz dg pw tn fm) → ND H 50 51 a → ND H 52 53 b → NS H 54 55 → NS H 56 57 → zFr [47, 54, 55, 56, 57] h H → 0 < B → B < q → (zV X (fun r h' n' => r = some (.long (jL (rdS (CP a b e rt) w : Nat))) ∧ n' = n ∧ (∃ vs vm ve, h' 47 = oModel vs vm ve sg e (rt:Nat) th tp wr at9 sz dg pw tn fm) ∧ NS h' 54 55 ∧ NS h' 56 57 ∧ zFr [47, 54, 55, 56, 57] h h') cX11_roundedSize 10 RX11 (some .long) d 0 0 81 [(0, .ref 47), (1, .int (iI (w:Nat))), (4, .long (jL (B:Nat))), (6, .long (jL (hi:Nat)))] [] H n 0 0) := by
        intro H hi mid hM hA hB hL hR fr hB0 hBq
        obtain ⟨_, _, _, h_47⟩ := id hM
        have er2 : rdS (CP a b e rt) w = if C (2 * B + 1) (w + 1) < 0 ∨ (C (2 * B + 1) (w + 1) = 0 ∧ B % 2 = 0) then B else B + 1 := by rw [er, if_neg (by omega), if_neg (by omega)]
        have r3 := hCr (2 * B + 1) (w + 1)
        refine v_aload_n dX11_roundedSize_81 rfl ?_
        refine v_ldc2_w (v := jL 2) kX11_89 dX11_roundedSize_82 ?_
        refine v_lload dX11_roundedSize_85 rfl ?_
        refine w_lmul dX11_roundedSize_87 ?_
        refine v_lconst (jL 1) dX11_roundedSize_88 rfl ?_
        refine w_ladd dX11_roundedSize_89 ?_
        refine w_el (2 * B + 1:Nat) (by omega) ?_
        refine v_iload_n dX11_roundedSize_90 rfl ?_
        refine v_iconst (iI 1) dX11_roundedSize_91 rfl ?_
        refine w_iadd dX11_roundedSize_92 ?_
        refine w_ei (w + 1:Nat) (by omega) ?_
        refine v_cV (av := [.long (jL (2 * B + 1:Nat)), .int (iI (w + 1:Nat))]) (st := []) zyX11_compareTo lX11_86 h_47 rfl (cmp H (2 * B + 1) (w + 1) (by omega) (by omega) (by omega) (by rw [show w + 1 - 1 = w from rfl, hqw]; omega) hM hA hB hL hR) dX11_roundedSize_93 rfl rfl (Nat.le_of_ble_eq_true rfl) (by omega) (Nat.le_of_ble_eq_true rfl) (Nat.le_of_ble_eq_true rfl) (Or.inl (fun _ _ _ q => ZN q)) (fun r9 G3 n9 q9 => ?_)
        obtain ⟨rfl, q9n, hM, hL, hR, fr7⟩ := q9
        have q9n := q9n.symm
        subst q9n
        have fr := fr.tr fr7 (by decide)
        refine v_istore (i := 8) (lv' := [(8, .int (iI (C (2 * B + 1) (w + 1)))), (0, .ref 47), (1, .int (iI (w:Nat))), (4, .long (jL (B:Nat))), (6, .long (jL (hi:Nat)))]) dX11_roundedSize_96 (by decide) rfl ?_
        refine v_iload dX11_roundedSize_98 rfl ?_
        refine w_if_lt 119 dX11_roundedSize_100 (by decide) (by omega) (fun c3 => ?_) (fun c3 => ?_)
        · skip
          refine v_lload dX11_roundedSize_119 rfl ?_
          refine v_goto 128 dX11_roundedSize_121 (by decide) ?_
          exact v_lret dX11_roundedSize_128 trivial (Nat.le_of_ble_eq_true rfl) (Nat.le_of_ble_eq_true rfl) ⟨by rw [er2, if_pos (Or.inl c3)], rfl, hM, hL, hR, fr⟩
        · skip
          refine v_iload dX11_roundedSize_103 rfl ?_
          refine w_if_ne 124 dX11_roundedSize_105 (by decide) (by omega) (fun c4 => ?_) (fun c4 => ?_)
          · skip
            refine v_lload dX11_roundedSize_124 rfl ?_
            refine v_lconst (jL 1) dX11_roundedSize_126 rfl ?_
            refine w_ladd dX11_roundedSize_127 ?_
            exact v_lret dX11_roundedSize_128 trivial (Nat.le_of_ble_eq_true rfl) (Nat.le_of_ble_eq_true rfl) ⟨by rw [er2, if_neg (by omega)]; rfl, rfl, hM, hL, hR, fr⟩
          · skip
            refine v_lload dX11_roundedSize_108 rfl ?_
            refine v_ldc2_w (v := jL 2) kX11_89 dX11_roundedSize_110 ?_
            refine w_lremn dX11_roundedSize_113 (by omega) (by decide) ?_
            refine v_lconst (jL 0) dX11_roundedSize_114 rfl ?_
            refine w_lcmp_ne 124 dX11_roundedSize_115 dX11_roundedSize_116 (by decide) (by omega) (by decide) (fun c5 => ?_) (fun c5 => ?_)
            · skip
              refine v_lload dX11_roundedSize_124 rfl ?_
              refine v_lconst (jL 1) dX11_roundedSize_126 rfl ?_
              refine w_ladd dX11_roundedSize_127 ?_
              exact v_lret dX11_roundedSize_128 trivial (Nat.le_of_ble_eq_true rfl) (Nat.le_of_ble_eq_true rfl) ⟨by rw [er2, if_neg (by omega)]; rfl, rfl, hM, hL, hR, fr⟩
            · skip
              refine v_lload dX11_roundedSize_119 rfl ?_
              refine v_goto 128 dX11_roundedSize_121 (by decide) ?_
              exact v_lret dX11_roundedSize_128 trivial (Nat.le_of_ble_eq_true rfl) (Nat.le_of_ble_eq_true rfl) ⟨by rw [er2, if_pos (Or.inr ⟨c4, by omega⟩)], rfl, hM, hL, hR, fr⟩
      have loop : ∀ (m lo hi : Nat) (H : zH), hi - lo ≤ m + 1 → 0 < lo → lo < hi → hi < q → bsr (fun u => C u w) m lo hi = B → (∃ vs vm ve, H 47 = oModel vs vm ve sg e (rt:Nat) th tp wr at9 sz dg pw tn fm) → ND H 50 51 a → ND H 52 53 b → NS H 54 55 → NS H 56 57 → zFr [47, 54, 55, 56, 57] h H → (zV X (fun r h' n' => r = some (.long (jL (rdS (CP a b e rt) w : Nat))) ∧ n' = n ∧ (∃ vs vm ve, h' 47 = oModel vs vm ve sg e (rt:Nat) th tp wr at9 sz dg pw tn fm) ∧ NS h' 54 55 ∧ NS h' 56 57 ∧ zFr [47, 54, 55, 56, 57] h h') cX11_roundedSize 10 RX11 (some .long) d 0 0 36 [(0, .ref 47), (1, .int (iI (w:Nat))), (4, .long (jL (lo:Nat))), (6, .long (jL (hi:Nat)))] [] H n 0 0) := by
        intro m
        induction m with
        | zero =>
          intro lo hi H hm h0 hlh hq eb hM hA hB hL hR fr
          have eb : lo = B := eb
          subst eb
          refine v_lload dX11_roundedSize_36 rfl ?_
          refine v_lload dX11_roundedSize_38 rfl ?_
          refine w_lsub dX11_roundedSize_40 ?_
          refine v_lconst (jL 1) dX11_roundedSize_41 rfl ?_
          refine w_lcmp_le 81 dX11_roundedSize_42 dX11_roundedSize_43 (by decide) (by omega) (by decide) (fun c3 => ?_) (fun c3 => ?_)
          · exact fin _ hi 0 hM hA hB hL hR fr h0 (by omega)
          · exact absurd c3 (by omega)
        | succ m ih =>
          intro lo hi H hm h0 hlh hq eb hM hA hB hL hR fr
          refine v_lload dX11_roundedSize_36 rfl ?_
          refine v_lload dX11_roundedSize_38 rfl ?_
          refine w_lsub dX11_roundedSize_40 ?_
          refine v_lconst (jL 1) dX11_roundedSize_41 rfl ?_
          refine w_lcmp_le 81 dX11_roundedSize_42 dX11_roundedSize_43 (by decide) (by omega) (by decide) (fun c3 => ?_) (fun c3 => ?_)
          · have eb : lo = B := by rw [← eb]; unfold bsr; rw [if_pos (by omega)]
            subst eb
            exact fin _ hi 0 hM hA hB hL hR fr h0 (by omega)
          · obtain ⟨_, _, _, h_47⟩ := id hM
            obtain ⟨md9, emd⟩ : ∃ md9, (lo + hi) / 2 = md9 := ⟨_, rfl⟩
            have eb2 : (if 0 ≤ C md9 w then bsr (fun u => C u w) m md9 hi else bsr (fun u => C u w) m lo md9) = B := by
              rw [← eb, ← emd]
              show _ = (if hi - lo ≤ 1 then lo else if 0 ≤ C ((lo + hi) / 2) w then bsr (fun u => C u w) m ((lo + hi) / 2) hi else bsr (fun u => C u w) m lo ((lo + hi) / 2))
              rw [if_neg (show ¬ hi - lo ≤ 1 by omega)]
            have r4 := hCr md9 w
            refine v_lload dX11_roundedSize_46 rfl ?_
            refine v_lload dX11_roundedSize_48 rfl ?_
            refine w_ladd dX11_roundedSize_50 ?_
            refine v_ldc2_w (v := jL 2) kX11_89 dX11_roundedSize_51 ?_
            refine w_ldivn dX11_roundedSize_54 (by omega) (by decide) ?_
            refine w_el (md9:Nat) (by omega) ?_
            refine v_lstore (i := 8) (lv' := [(8, .long (jL (md9:Nat))), (0, .ref 47), (1, .int (iI (w:Nat))), (4, .long (jL (lo:Nat))), (6, .long (jL (hi:Nat)))]) dX11_roundedSize_55 (by decide) rfl ?_
            refine v_aload_n dX11_roundedSize_57 rfl ?_
            refine v_lload dX11_roundedSize_58 rfl ?_
            refine v_iload_n dX11_roundedSize_60 rfl ?_
            refine v_cV (av := [.long (jL (md9:Nat)), .int (iI (w:Nat))]) (st := []) zyX11_compareTo lX11_86 h_47 rfl (cmp H md9 w (by omega) (by omega) (by omega) (by rw [eq]; omega) hM hA hB hL hR) dX11_roundedSize_61 rfl rfl (Nat.le_of_ble_eq_true rfl) (by omega) (Nat.le_of_ble_eq_true rfl) (Nat.le_of_ble_eq_true rfl) (Or.inl (fun _ _ _ q => ZN q)) (fun r9 G3 n9 q9 => ?_)
            obtain ⟨rfl, q9n, hM, hL, hR, fr7⟩ := q9
            have q9n := q9n.symm
            subst q9n
            have hA := kA fr7 hA
            have hB := kB fr7 hB
            have fr := fr.tr fr7 (by decide)
            refine w_if_lt 74 dX11_roundedSize_64 (by decide) (by omega) (fun c4 => ?_) (fun c4 => ?_)
            · rw [if_neg (by omega)] at eb2
              refine v_lload dX11_roundedSize_74 rfl ?_
              refine v_lstore (i := 6) (lv' := [(6, .long (jL (md9:Nat))), (8, .long (jL (md9:Nat))), (0, .ref 47), (1, .int (iI (w:Nat))), (4, .long (jL (lo:Nat)))]) dX11_roundedSize_76 (by decide) rfl ?_
              refine v_goto 36 dX11_roundedSize_78 (by decide) ?_
              refine w_sub (lv2 := [(0, .ref 47), (1, .int (iI (w:Nat))), (4, .long (jL (lo:Nat))), (6, .long (jL (md9:Nat)))]) [2, 3, 4, 0] rfl ?_
              exact ih lo md9 _ (by omega) h0 (by omega) (by omega) eb2 hM hA hB hL hR fr
            · rw [if_pos (by omega)] at eb2
              refine v_lload dX11_roundedSize_67 rfl ?_
              refine v_lstore (i := 4) (lv' := [(4, .long (jL (md9:Nat))), (8, .long (jL (md9:Nat))), (0, .ref 47), (1, .int (iI (w:Nat))), (6, .long (jL (hi:Nat)))]) dX11_roundedSize_69 (by decide) rfl ?_
              refine v_goto 78 dX11_roundedSize_71 (by decide) ?_
              refine v_goto 36 dX11_roundedSize_78 (by decide) ?_
              refine w_sub (lv2 := [(0, .ref 47), (1, .int (iI (w:Nat))), (4, .long (jL (md9:Nat))), (6, .long (jL (hi:Nat)))]) [2, 3, 0, 4] rfl ?_
              exact ih md9 hi _ (by omega) (by omega) (by omega) (by omega) eb2 hM hA hB hL hR fr
      refine v_lconst (jL 1) dX11_roundedSize_30 rfl ?_
      refine v_lstore (i := 4) (lv' := [(4, .long (jL 1)), (2, .long (jL (q - 1:Nat))), (0, .ref 47), (1, .int (iI (w:Nat)))]) dX11_roundedSize_31 (by decide) rfl ?_
      refine v_lload_n dX11_roundedSize_33 rfl ?_
      refine v_lstore (i := 6) (lv' := [(6, .long (jL (q - 1:Nat))), (4, .long (jL 1)), (2, .long (jL (q - 1:Nat))), (0, .ref 47), (1, .int (iI (w:Nat)))]) dX11_roundedSize_34 (by decide) rfl ?_
      refine w_sub (lv2 := [(0, .ref 47), (1, .int (iI (w:Nat))), (4, .long (jL 1)), (6, .long (jL (q - 1:Nat)))]) [3, 4, 1, 0] rfl ?_
      exact loop q 1 (q - 1) _ (by omega) (by decide) (by omega) (by omega) eB hM hA hB hL hR fr
    · skip
      refine v_lload_n dX11_roundedSize_28 rfl ?_
      exact v_lret dX11_roundedSize_29 trivial (Nat.le_of_ble_eq_true rfl) (Nat.le_of_ble_eq_true rfl) ⟨by rw [er, if_neg (by omega), if_pos (by omega)], rfl, hM, hL, hR, fr⟩
  · skip
    refine v_lconst (jL 1) dX11_roundedSize_17 rfl ?_
    exact v_lret dX11_roundedSize_18 trivial (Nat.le_of_ble_eq_true rfl) (Nat.le_of_ble_eq_true rfl) ⟨by rw [er, if_pos (by omega)]; rfl, rfl, hM, hL, hR, fr⟩
theorem rdS_le {C : Nat → Nat → Int} {n : Nat} (hn : 3 ≤ n) : rdS C n ≤ 2 ^ (n - 1) := by
  have h4 : 2 ^ 2 ≤ 2 ^ (n - 1) := Nat.pow_le_pow_right (by decide) (by omega)
  unfold rdS
  split
  · omega
  · split
    · omega
    · rename_i c1 c2
      have := bsr_spec (f := fun u => C u n) (2 ^ (n - 1)) 1 (2 ^ (n - 1) - 1) (by omega) (by omega) (by show 0 ≤ C 1 n; omega) (by show C (2 ^ (n - 1) - 1) n < 0; omega)
      split <;> omega
/-- with its sign -/
def rdR (sg : Int) (C : Nat → Nat → Int) (n : Nat) : Nat := if sg = 0 then 0 else if 0 < sg then rdS C n else 2 ^ n - rdS C n
set_option maxHeartbeats 8000000 in
set_option maxRecDepth 100000 in
theorem p_rounded {d n a b rt w : Nat} {vs vm ve sg e th tp wr at9 sz dg pw tn fm : Int} {h : zH} (h_47 : h 47 = oModel vs vm ve sg e (rt:Nat) th tp wr at9 sz dg pw tn fm) (hA : ND h 50 51 a) (hB : ND h 52 53 b) (hL : NS h 54 55) (hR : NS h 56 57) (hsg : -1 ≤ sg ∧ sg ≤ 1) (ha0 : sg ≠ 0 → a ≠ 0) (ha : nb a ≤ 6000) (hb0 : b ≠ 0) (hb : nb b ≤ 5700) (hrt : 1 ≤ rt ∧ rt ≤ 8) (he : -5000 ≤ e ∧ e ≤ 5000) (hw : 3 ≤ w ∧ w ≤ 32) (hd : 5 ≤ d) :
    zM yX11_rounded cX11_rounded 4 (some .long) d 0 0 [.ref 47, .int (iI (w:Nat))] h n (fun r h' n' => r = some (.long (jL (rdR sg (CP a b e rt) w : Nat))) ∧ n' = n ∧ (∃ vs vm ve, h' 47 = oModel vs vm ve sg e (rt:Nat) th tp wr at9 sz dg pw tn fm) ∧ NS h' 54 55 ∧ NS h' 56 57 ∧ zFr [47, 54, 55, 56, 57] h h') := by
  refine zM_of zyX11_rounded rfl (Nat.le_of_ble_eq_true rfl) (fun X hX => ?_)
  have fr : zFr [47, 54, 55, 56, 57] h h := zFr.rf
  have hle := rdS_le (C := CP a b e rt) (n := w) hw.1
  have hqw : 2 ^ w = 2 * 2 ^ (w - 1) := by rw [Nat.mul_comm, ← Nat.pow_succ]; congr 1; omega
  refine v_aload_n dX11_rounded_0 rfl ?_
  refine v_get fX11_32 dX11_rounded_1 h_47 (by decide) rfl ?_
  refine w_if_ne 9 dX11_rounded_4 (by decide) (by omega) (fun c1 => ?_) (fun c1 => ?_)
  · skip
    refine v_aload_n dX11_rounded_9 rfl ?_
    refine v_iload_n dX11_rounded_10 rfl ?_
    refine v_cV (av := [.int (iI (w:Nat))]) (st := []) zyX11_roundedSize lX11_82 h_47 rfl (p_roundedSize (d := 4) h_47 hA hB hL hR (ha0 c1) ha hb0 hb hrt he hw (by decide)) dX11_rounded_11 rfl rfl (Nat.le_of_ble_eq_true rfl) (by omega) (Nat.le_of_ble_eq_true rfl) (Nat.le_of_ble_eq_true rfl) (Or.inl (fun _ _ _ q => ZN q)) (fun r9 G1 n9 q9 => ?_)
    obtain ⟨rfl, q9n, ⟨vs2, vm2, ve2, h_47⟩, hL, hR, fr9⟩ := q9
    have q9n := q9n.symm
    subst q9n
    have fr := fr.tr fr9 (by decide)
    refine v_lstore_n (i := 2) (lv' := [(2, .long (jL (rdS (CP a b e rt) w:Nat))), (0, .ref 47), (1, .int (iI (w:Nat)))]) dX11_rounded_14 rfl (by decide) rfl ?_
    refine v_aload_n dX11_rounded_15 rfl ?_
    refine v_get fX11_32 dX11_rounded_16 h_47 (by decide) rfl ?_
    refine w_if_le 26 dX11_rounded_19 (by decide) (by omega) (fun c2 => ?_) (fun c2 => ?_)
    · skip
      refine v_lconst (jL 1) dX11_rounded_26 rfl ?_
      refine v_iload_n dX11_rounded_27 rfl ?_
      refine w_lshl dX11_rounded_28 w (2 ^ w) rfl (by omega) (by omega) ?_
      refine v_lload_n dX11_rounded_29 rfl ?_
      refine w_lsub dX11_rounded_30 ?_
      exact v_lret dX11_rounded_31 trivial (Nat.le_of_ble_eq_true rfl) (Nat.le_of_ble_eq_true rfl) ⟨by unfold rdR; rw [if_neg c1, if_neg (by omega), ip, Int.natCast_sub (by omega)], rfl, ⟨_, _, _, h_47⟩, hL, hR, fr⟩
    · skip
      refine v_lload_n dX11_rounded_22 rfl ?_
      refine v_goto 31 dX11_rounded_23 (by decide) ?_
      exact v_lret dX11_rounded_31 trivial (Nat.le_of_ble_eq_true rfl) (Nat.le_of_ble_eq_true rfl) ⟨by unfold rdR; rw [if_neg c1, if_pos (by omega)], rfl, ⟨_, _, _, h_47⟩, hL, hR, fr⟩
  · skip
    refine v_lconst (jL 0) dX11_rounded_7 rfl ?_
    exact v_lret dX11_rounded_8 trivial (Nat.le_of_ble_eq_true rfl) (Nat.le_of_ble_eq_true rfl) ⟨by unfold rdR; rw [if_pos c1]; rfl, rfl, ⟨_, _, _, h_47⟩, hL, hR, fr⟩
set_option maxHeartbeats 8000000 in
set_option maxRecDepth 100000 in
theorem p_become {d n a b rt p : Nat} {wd pt : Nat → Nat} {vs vm ve sg e th tp wr at9 sz dg pw tn fm : Int} {h : zH} (h_47 : h 47 = oModel vs vm ve sg e (rt:Nat) th tp wr at9 sz dg pw tn fm) (h_48 : h 48 = aN 32 wd) (h_49 : h 49 = aM 32 pt) (hA : ND h 50 51 a) (hB : ND h 52 53 b) (hL : NS h 54 55) (hR : NS h 56 57) (hsg : -1 ≤ sg ∧ sg ≤ 1) (ha0 : sg ≠ 0 → a ≠ 0) (ha : nb a ≤ 6000) (hb0 : b ≠ 0) (hb : nb b ≤ 5700) (hrt : 1 ≤ rt ∧ rt ≤ 8) (he : -5000 ≤ e ∧ e ≤ 5000) (hp : p < 32) (hw : 3 ≤ wd p ∧ wd p ≤ 32) (hd : 6 ≤ d) :
    zM yX11_become cX11_become 2 none d 0 0 [.ref 47, .int (iI (p:Nat))] h n (fun r h' n' => r = none ∧ n' = n ∧ (∃ vs vm ve, h' 47 = oModel vs vm ve sg e (rt:Nat) th tp wr at9 sz dg pw tn fm) ∧ h' 49 = aM 32 (zup pt p (rdR sg (CP a b e rt) (wd p))) ∧ NS h' 54 55 ∧ NS h' 56 57 ∧ zFr [47, 49, 54, 55, 56, 57] h h') := by
  refine zM_of zyX11_become rfl (Nat.le_of_ble_eq_true rfl) (fun X hX => ?_)
  have fr : zFr [47, 49, 54, 55, 56, 57] h h := zFr.rf
  refine v_aload_n dX11_become_0 rfl ?_
  refine v_get fX11_20 dX11_become_1 h_47 (by decide) rfl ?_
  refine v_iload_n dX11_become_4 rfl ?_
  refine v_aload_n dX11_become_5 rfl ?_
  refine v_aload_n dX11_become_6 rfl ?_
  refine v_get fX11_24 dX11_become_7 h_47 (by decide) rfl ?_
  refine v_iload_n dX11_become_10 rfl ?_
  refine w_nald dX11_become_11 h_48 p (by omega) (by omega) (by decide) ?_
  refine v_cV (av := [.int (iI (wd p : Nat))]) (st := [.int (iI (p:Nat)), .ref 49]) zyX11_rounded lX11_91 h_47 rfl (p_rounded (d := 5) (w := wd p) h_47 hA hB hL hR hsg ha0 ha hb0 hb hrt he hw (by decide)) dX11_become_12 rfl rfl (Nat.le_of_ble_eq_true rfl) (by omega) (Nat.le_of_ble_eq_true rfl) (Nat.le_of_ble_eq_true rfl) (Or.inl (fun _ _ _ q => ZN q)) (fun r9 G1 n9 q9 => ?_)
  obtain ⟨rfl, q9n, ⟨vs2, vm2, ve2, h_47⟩, hL, hR, fr9⟩ := q9
  have q9n := q9n.symm
  subst q9n
  have h_49 := (fr9 49 (by decide)).trans h_49
  have h_48 := (fr9 48 (by decide)).trans h_48
  have fr := fr.tr fr9 (by decide)
  refine w_mast dX11_become_15 h_49 p (by omega) (by omega) (by decide) (rdR sg (CP a b e rt) (wd p)) (by omega) (fun H1 eH1 => ?_)
  obtain ⟨F1, eF1⟩ : ∃ zz9, zz9 = zup pt p (rdR sg (CP a b e rt) (wd p)) := ⟨_, rfl⟩
  rw [← eF1] at eH1
  have h_49 : H1 49 = aM 32 F1 := zf_same eH1
  have h_47 := (zf_ne eH1 (by decide)).trans h_47
  have h_48 := (zf_ne eH1 (by decide)).trans h_48
  have fr := fr.put eH1 (by simp)
  have fz : zFr [49] G1 H1 := zFr.put zFr.rf eH1 (by simp)
  exact v_vret dX11_become_16 trivial (Nat.le_of_ble_eq_true rfl) (Nat.le_of_ble_eq_true rfl) ⟨rfl, rfl, ⟨_, _, _, h_47⟩, by rw [← eF1]; exact h_49, hL.fr fz (by decide) (by decide), hR.fr fz (by decide) (by decide), fr⟩
set_option maxHeartbeats 8000000 in
set_option maxRecDepth 100000 in
theorem p_becomeNar {d n p : Nat} {wd pt : Nat → Nat} {vs vm ve sg e rt th tp wr at9 sz dg pw tn fm : Int} {h : zH} (h_47 : h 47 = oModel vs vm ve sg e rt th tp wr at9 sz dg pw tn fm) (h_48 : h 48 = aN 32 wd) (h_49 : h 49 = aM 32 pt) (hp : p < 32) (hw : 3 ≤ wd p ∧ wd p ≤ 32) :
    zM yX11_becomeNar cX11_becomeNar 2 none d 0 0 [.ref 47, .int (iI (p:Nat))] h n (fun r h' n' => r = none ∧ n' = n ∧ h' 49 = aM 32 (zup pt p (2 ^ (wd p - 1))) ∧ zFr [49] h h') := by
  refine zM_of zyX11_becomeNar rfl (Nat.le_of_ble_eq_true rfl) (fun X hX => ?_)
  have fr : zFr [49] h h := zFr.rf
  refine v_aload_n dX11_becomeNar_0 rfl ?_
  refine v_get fX11_20 dX11_becomeNar_1 h_47 (by decide) rfl ?_
  refine v_iload_n dX11_becomeNar_4 rfl ?_
  refine v_lconst (jL 1) dX11_becomeNar_5 rfl ?_
  refine v_aload_n dX11_becomeNar_6 rfl ?_
  refine v_get fX11_24 dX11_becomeNar_7 h_47 (by decide) rfl ?_
  refine v_iload_n dX11_becomeNar_10 rfl ?_
  refine w_nald dX11_becomeNar_11 h_48 p (by omega) (by omega) (by decide) ?_
  refine v_iconst (iI 1) dX11_becomeNar_12 rfl ?_
  refine w_isub dX11_becomeNar_13 ?_
  refine w_lshl dX11_becomeNar_14 (wd p - 1) (2 ^ (wd p - 1)) rfl (by omega) (by omega) ?_
  refine w_el (2 ^ (wd p - 1):Nat) (ip _) ?_
  refine w_mast dX11_becomeNar_15 h_49 p (by omega) (by omega) (by decide) (2 ^ (wd p - 1)) (by omega) (fun H1 eH1 => ?_)
  obtain ⟨F1, eF1⟩ : ∃ zz9, zz9 = zup pt p (2 ^ (wd p - 1)) := ⟨_, rfl⟩
  rw [← eF1] at eH1
  have h_49 : H1 49 = aM 32 F1 := zf_same eH1
  have h_47 := (zf_ne eH1 (by decide)).trans h_47
  have h_48 := (zf_ne eH1 (by decide)).trans h_48
  have fr := fr.put eH1 (by simp)
  exact v_vret dX11_becomeNar_16 trivial (Nat.le_of_ble_eq_true rfl) (Nat.le_of_ble_eq_true rfl) ⟨rfl, rfl, by rw [← eF1]; exact h_49, fr⟩
