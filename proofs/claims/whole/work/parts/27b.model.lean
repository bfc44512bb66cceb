/-! The reference: looking at a place, comparing, rounding -/
set_option maxHeartbeats 8000000 in
set_option maxRecDepth 100000 in
theorem p_mdecodeN {d n w u : Nat} {vs vm ve sg e rt th tp wr at9 sz dg pw tn fm : Int} {h : zH} (h_47 : h 47 = oModel vs vm ve sg e rt th tp wr at9 sz dg pw tn fm) (hw : 3 ≤ w ∧ w ≤ 33) (eu9 : u = 2 ^ (w - 1)) (hd : 1 ≤ d) :
    zM yX11_decode cX11_decode 9 none d 0 0 [.ref 47, .long (jL (u:Nat)), .int (iI (w:Nat))] h n (fun r h' n' => r = none ∧ n' = n ∧ (∃ (E : Int), h' 47 = oModel 1 1 E sg e rt th tp wr at9 sz dg pw tn fm ∧ -300 ≤ E ∧ E ≤ 300) ∧ zFr [47] h h') := by
  obtain ⟨W, eW⟩ : ∃ W, w - 1 = W := ⟨_, rfl⟩
  have ew : w = W + 1 := by omega
  have eu : 2 ^ W = u := by rw [eu9, eW]
  have hu32 : u ≤ 4294967296 := by rw [← eu]; exact Nat.pow_le_pow_right (show 0 < 2 by decide) (show W ≤ 32 by omega)
  have hbit : ∀ b, b < W → u / 2 ^ b % 2 = 0 := fun b hb => by
    rw [← eu, show W = b + (1 + (W - b - 1)) from by omega, Nat.pow_add, Nat.mul_div_cancel_left _ (p_pos b), Nat.pow_add]
    exact Nat.mul_mod_right 2 _
  refine zM_of zyX11_decode rfl (Nat.le_of_ble_eq_true rfl) (fun X hX => ?_)
  have fr : zFr [47] h h := zFr.rf
  have full : (zV X (fun r h' n' => r = none ∧ n' = n ∧ (∃ (E : Int), h' 47 = oModel 1 1 E sg e rt th tp wr at9 sz dg pw tn fm ∧ -300 ≤ E ∧ E ≤ 300) ∧ zFr [47] h h') cX11_decode 9 RX11 none d 0 0 44 [(0, .ref 47), (1, .long (jL (u:Nat))), (3, .int (iI (w:Nat))), (4, .int (iI (-1))), (5, .int (iI (0:Nat))), (6, .int (iI (W:Nat)))] [] h n 0 0) := by
    refine w_iinc (lv' := [(4, .int (iI ((-1) + (-1)))), (0, .ref 47), (1, .long (jL (u:Nat))), (3, .int (iI (w:Nat))), (5, .int (iI (0:Nat))), (6, .int (iI (W:Nat)))]) dX11_decode_44 rfl (by decide) rfl ?_
    refine v_iconst (iI 0) dX11_decode_47 rfl ?_
    refine v_istore (i := 7) (lv' := [(7, .int (iI 0)), (4, .int (iI ((-1) + (-1)))), (0, .ref 47), (1, .long (jL (u:Nat))), (3, .int (iI (w:Nat))), (5, .int (iI (0:Nat))), (6, .int (iI (W:Nat)))]) dX11_decode_48 (by decide) rfl ?_
    refine v_iconst (iI 0) dX11_decode_50 rfl ?_
    refine v_istore (i := 8) (lv' := [(8, .int (iI 0)), (7, .int (iI 0)), (4, .int (iI ((-1) + (-1)))), (0, .ref 47), (1, .long (jL (u:Nat))), (3, .int (iI (w:Nat))), (5, .int (iI (0:Nat))), (6, .int (iI (W:Nat)))]) dX11_decode_51 (by decide) rfl ?_
    refine v_iload dX11_decode_53 rfl ?_
    refine v_iconst (iI 2) dX11_decode_55 rfl ?_
    refine w_icmp_ge 91 dX11_decode_56 (by decide) (by decide) (by decide) (fun c1 => ?_) (fun c1 => ?_)
    · exact absurd c1 (by decide)
    · skip
      refine v_iconst (iI 2) dX11_decode_59 rfl ?_
      refine v_iload dX11_decode_60 rfl ?_
      refine w_imul dX11_decode_62 ?_
      refine w_ei 0 rfl ?_
      refine v_iload dX11_decode_63 rfl ?_
      refine w_if_lt 78 dX11_decode_65 (by decide) (by decide) (fun c2 => ?_) (fun c2 => ?_)
      · skip
        refine v_iconst (iI 0) dX11_decode_78 rfl ?_
        refine w_iadd dX11_decode_79 ?_
        refine w_ei 0 rfl ?_
        refine v_istore (i := 7) (lv' := [(7, .int (iI 0)), (8, .int (iI 0)), (4, .int (iI ((-1) + (-1)))), (0, .ref 47), (1, .long (jL (u:Nat))), (3, .int (iI (w:Nat))), (5, .int (iI (0:Nat))), (6, .int (iI (W:Nat)))]) dX11_decode_80 (by decide) rfl ?_
        refine w_iinc (lv' := [(4, .int (iI (((-1) + (-1)) + (-1)))), (7, .int (iI 0)), (8, .int (iI 0)), (0, .ref 47), (1, .long (jL (u:Nat))), (3, .int (iI (w:Nat))), (5, .int (iI (0:Nat))), (6, .int (iI (W:Nat)))]) dX11_decode_82 rfl (by decide) rfl ?_
        refine w_iinc (lv' := [(8, .int (iI (0 + 1))), (4, .int (iI (((-1) + (-1)) + (-1)))), (7, .int (iI 0)), (0, .ref 47), (1, .long (jL (u:Nat))), (3, .int (iI (w:Nat))), (5, .int (iI (0:Nat))), (6, .int (iI (W:Nat)))]) dX11_decode_85 rfl (by decide) rfl ?_
        refine v_goto 53 dX11_decode_88 (by decide) ?_
        refine v_iload dX11_decode_53 rfl ?_
        refine v_iconst (iI 2) dX11_decode_55 rfl ?_
        refine w_icmp_ge 91 dX11_decode_56 (by decide) (by decide) (by decide) (fun c3 => ?_) (fun c3 => ?_)
        · exact absurd c3 (by decide)
        · skip
          refine v_iconst (iI 2) dX11_decode_59 rfl ?_
          refine v_iload dX11_decode_60 rfl ?_
          refine w_imul dX11_decode_62 ?_
          refine w_ei 0 rfl ?_
          refine v_iload dX11_decode_63 rfl ?_
          refine w_if_lt 78 dX11_decode_65 (by decide) (by decide) (fun c4 => ?_) (fun c4 => ?_)
          · skip
            refine v_iconst (iI 0) dX11_decode_78 rfl ?_
            refine w_iadd dX11_decode_79 ?_
            refine w_ei 0 rfl ?_
            refine v_istore (i := 7) (lv' := [(7, .int (iI 0)), (8, .int (iI (0 + 1))), (4, .int (iI (((-1) + (-1)) + (-1)))), (0, .ref 47), (1, .long (jL (u:Nat))), (3, .int (iI (w:Nat))), (5, .int (iI (0:Nat))), (6, .int (iI (W:Nat)))]) dX11_decode_80 (by decide) rfl ?_
            refine w_iinc (lv' := [(4, .int (iI ((((-1) + (-1)) + (-1)) + (-1)))), (7, .int (iI 0)), (8, .int (iI (0 + 1))), (0, .ref 47), (1, .long (jL (u:Nat))), (3, .int (iI (w:Nat))), (5, .int (iI (0:Nat))), (6, .int (iI (W:Nat)))]) dX11_decode_82 rfl (by decide) rfl ?_
            refine w_iinc (lv' := [(8, .int (iI ((0 + 1) + 1))), (4, .int (iI ((((-1) + (-1)) + (-1)) + (-1)))), (7, .int (iI 0)), (0, .ref 47), (1, .long (jL (u:Nat))), (3, .int (iI (w:Nat))), (5, .int (iI (0:Nat))), (6, .int (iI (W:Nat)))]) dX11_decode_85 rfl (by decide) rfl ?_
            refine v_goto 53 dX11_decode_88 (by decide) ?_
            refine v_iload dX11_decode_53 rfl ?_
            refine v_iconst (iI 2) dX11_decode_55 rfl ?_
            refine w_icmp_ge 91 dX11_decode_56 (by decide) (by decide) (by decide) (fun c5 => ?_) (fun c5 => ?_)
            · skip
              refine v_iconst (iI 0) dX11_decode_91 rfl ?_
              refine v_iload dX11_decode_92 rfl ?_
              refine v_iconst (iI 1) dX11_decode_94 rfl ?_
              refine w_iadd dX11_decode_95 ?_
              refine v_cS (av := [.int (iI 0), .int (iI (((((-1) + (-1)) + (-1)) + (-1)) + 1))]) (st := []) zyJ9_max_7cf53 lX11_1 (p_max (d := 0) (by decide) (by decide)) dX11_decode_96 rfl rfl (Nat.le_of_ble_eq_true rfl) (by omega) (Nat.le_of_ble_eq_true rfl) (Nat.le_of_ble_eq_true rfl) (Or.inl (fun _ _ _ q => ZN q)) (fun r9 K1 n9 q9 => ?_)
              obtain ⟨rfl, q9n, q9h⟩ := q9
              have q9n := q9n.symm
              subst q9n
              have q9h := q9h.symm
              subst q9h
              refine w_ei 0 (by decide) ?_
              refine v_istore (i := 8) (lv' := [(8, .int (iI 0)), (4, .int (iI ((((-1) + (-1)) + (-1)) + (-1)))), (7, .int (iI 0)), (0, .ref 47), (1, .long (jL (u:Nat))), (3, .int (iI (w:Nat))), (5, .int (iI (0:Nat))), (6, .int (iI (W:Nat)))]) dX11_decode_99 (by decide) rfl ?_
              refine v_aload_n dX11_decode_101 rfl ?_
              refine v_lconst (jL 1) dX11_decode_102 rfl ?_
              refine v_iload dX11_decode_103 rfl ?_
              refine w_lshl dX11_decode_105 0 1 rfl rfl (by decide) ?_
              refine w_el 1 rfl ?_
              refine v_lload_n dX11_decode_106 rfl ?_
              refine v_lconst (jL 1) dX11_decode_107 rfl ?_
              refine v_iload dX11_decode_108 rfl ?_
              refine w_lshl dX11_decode_110 0 1 rfl rfl (by decide) ?_
              refine w_el 1 rfl ?_
              refine v_lconst (jL 1) dX11_decode_111 rfl ?_
              refine w_lsub dX11_decode_112 ?_
              refine w_el 0 rfl ?_
              refine v_land dX11_decode_113 ?_
              rw [show jL (u:Nat) &&& jL 0 = jL 0 from by rw [show jL 0 = (0 : Int64) from rfl, Int64.and_zero]]
              refine v_lor dX11_decode_114 ?_
              rw [show jL 1 ||| jL 0 = jL 1 from by decide]
              refine v_put (fs' := [.int (iI vs), .long (jL 1), .int (iI ve), .ref 48, .ref 49, .int (iI sg), .ref 50, .ref 52, .int (iI e), .int (iI rt), .ref 54, .ref 56, .ref 58, .ref 59, .ref 62, .ref 64, .int (iI th), .ref 66, .int (iI tp), .ref 67, .int (iI wr), .int (iI at9), .int (iI sz), .int (iI dg), .int (iI pw), .ref 68, .ref 69, .ref 71, .int (iI tn), .ref 73, .int (iI fm), .ref 74, .ref 76]) fX11_7 dX11_decode_115 h_47 (by decide) (Nat.le_of_ble_eq_true rfl) rfl rfl rfl (fun H1 eH1 => ?_)
              have h_47 : H1 47 = oModel vs 1 ve sg e rt th tp wr at9 sz dg pw tn fm := zf_same eH1
              have fr := fr.put eH1 (by simp)
              refine v_aload_n dX11_decode_118 rfl ?_
              refine v_iconst (iI 4) dX11_decode_119 rfl ?_
              refine v_iload dX11_decode_120 rfl ?_
              refine v_iconst (iI 1) dX11_decode_122 rfl ?_
              refine w_icmp_ne 133 dX11_decode_123 (by decide) (by decide) (by decide) (fun c6 => ?_) (fun c6 => ?_)
              · skip
                refine v_iload dX11_decode_133 rfl ?_
                refine w_ineg dX11_decode_135 ?_
                refine w_imul dX11_decode_136 ?_
                refine v_iload dX11_decode_137 rfl ?_
                refine w_iadd dX11_decode_139 ?_
                refine v_iload dX11_decode_140 rfl ?_
                refine w_isub dX11_decode_142 ?_
                refine v_put (fs' := [.int (iI vs), .long (jL 1), .int (iI (((4 * (-(W:Nat))) + 0) - 0)), .ref 48, .ref 49, .int (iI sg), .ref 50, .ref 52, .int (iI e), .int (iI rt), .ref 54, .ref 56, .ref 58, .ref 59, .ref 62, .ref 64, .int (iI th), .ref 66, .int (iI tp), .ref 67, .int (iI wr), .int (iI at9), .int (iI sz), .int (iI dg), .int (iI pw), .ref 68, .ref 69, .ref 71, .int (iI tn), .ref 73, .int (iI fm), .ref 74, .ref 76]) fX11_13 dX11_decode_143 h_47 (by decide) (Nat.le_of_ble_eq_true rfl) rfl rfl rfl (fun H2 eH2 => ?_)
                have h_47 : H2 47 = oModel vs 1 (((4 * (-(W:Nat))) + 0) - 0) sg e rt th tp wr at9 sz dg pw tn fm := zf_same eH2
                have fr := fr.put eH2 (by simp)
                refine v_aload_n dX11_decode_146 rfl ?_
                refine v_iconst (iI 1) dX11_decode_147 rfl ?_
                refine v_put (fs' := [.int (iI 1), .long (jL 1), .int (iI (((4 * (-(W:Nat))) + 0) - 0)), .ref 48, .ref 49, .int (iI sg), .ref 50, .ref 52, .int (iI e), .int (iI rt), .ref 54, .ref 56, .ref 58, .ref 59, .ref 62, .ref 64, .int (iI th), .ref 66, .int (iI tp), .ref 67, .int (iI wr), .int (iI at9), .int (iI sz), .int (iI dg), .int (iI pw), .ref 68, .ref 69, .ref 71, .int (iI tn), .ref 73, .int (iI fm), .ref 74, .ref 76]) fX11_17 dX11_decode_148 h_47 (by decide) (Nat.le_of_ble_eq_true rfl) rfl rfl rfl (fun H3 eH3 => ?_)
                have h_47 : H3 47 = oModel 1 1 (((4 * (-(W:Nat))) + 0) - 0) sg e rt th tp wr at9 sz dg pw tn fm := zf_same eH3
                have fr := fr.put eH3 (by simp)
                exact v_vret dX11_decode_151 trivial (Nat.le_of_ble_eq_true rfl) (Nat.le_of_ble_eq_true rfl) ⟨rfl, rfl, ⟨_, h_47, by omega, by omega⟩, fr⟩
              · exact absurd c6 (by decide)
            · exact absurd (by decide) c5
          · exact absurd (by decide) c4
      · exact absurd (by decide) c2
  have loop : ∀ (b k : Nat) (y : Int), k + b = W → y = (b : Int) - 1 → (zV X (fun r h' n' => r = none ∧ n' = n ∧ (∃ (E : Int), h' 47 = oModel 1 1 E sg e rt th tp wr at9 sz dg pw tn fm ∧ -300 ≤ E ∧ E ≤ 300) ∧ zFr [47] h h') cX11_decode 9 RX11 none d 0 0 17 [(0, .ref 47), (1, .long (jL (u:Nat))), (3, .int (iI (w:Nat))), (4, .int (iI y)), (5, .int (iI (0:Nat))), (6, .int (iI (k:Nat)))] [] h n 0 0) := by
    intro b
    induction b with
    | zero =>
      intro k y hk ey
      rw [show y = -1 from by omega, show k = W from by omega]
      refine v_iload dX11_decode_17 rfl ?_
      refine w_if_lt 44 dX11_decode_19 (by decide) (by decide) (fun c1 => ?_) (fun c1 => ?_)
      · exact full
      · exact absurd (by decide) c1
    | succ b ih =>
      intro k y hk ey
      refine v_iload dX11_decode_17 rfl ?_
      refine w_if_lt 44 dX11_decode_19 (by decide) (by omega) (fun c1 => ?_) (fun c1 => ?_)
      · exact absurd c1 (by omega)
      · skip
        refine v_lload_n dX11_decode_22 rfl ?_
        refine v_iload dX11_decode_23 rfl ?_
        refine w_lshr dX11_decode_25 b (2 ^ b) rfl (by omega) (by omega) (by omega) ?_
        refine v_lconst (jL 1) dX11_decode_26 rfl ?_
        refine w_landm dX11_decode_27 1 2 rfl (by decide) rfl ?_
        refine w_el 0 (by rw [ipw, ← Int.natCast_ediv]; have := hbit b (by omega); omega) ?_
        refine v_iload dX11_decode_28 rfl ?_
        refine w_i2l dX11_decode_30 (by omega) ?_
        refine w_lcmp_ne 44 dX11_decode_31 dX11_decode_32 (by decide) (by decide) (by decide) (fun c2 => ?_) (fun c2 => ?_)
        · exact absurd rfl c2
        · skip
          refine w_iinc (lv' := [(6, .int (iI ((k:Nat) + 1))), (0, .ref 47), (1, .long (jL (u:Nat))), (3, .int (iI (w:Nat))), (4, .int (iI y)), (5, .int (iI (0:Nat)))]) dX11_decode_35 rfl (by decide) rfl ?_
          refine w_iinc (lv' := [(4, .int (iI (y + (-1)))), (6, .int (iI ((k:Nat) + 1))), (0, .ref 47), (1, .long (jL (u:Nat))), (3, .int (iI (w:Nat))), (5, .int (iI (0:Nat)))]) dX11_decode_38 rfl (by decide) rfl ?_
          refine v_goto 17 dX11_decode_41 (by decide) ?_
          refine w_sub (lv2 := [(0, .ref 47), (1, .long (jL (u:Nat))), (3, .int (iI (w:Nat))), (4, .int (iI (y + (-1)))), (5, .int (iI (0:Nat))), (6, .int (iI ((k:Nat) + 1)))]) [2, 3, 4, 0, 5, 1] rfl ?_
          exact ih (k + 1) _ (by omega) (by omega)
  refine v_iload_n dX11_decode_0 rfl ?_
  refine v_iconst (iI 2) dX11_decode_1 rfl ?_
  refine w_isub dX11_decode_2 ?_
  refine v_istore (i := 4) (lv' := [(4, .int (iI ((w:Nat) - 2))), (0, .ref 47), (1, .long (jL (u:Nat))), (3, .int (iI (w:Nat)))]) dX11_decode_3 (by decide) rfl ?_
  refine v_lload_n dX11_decode_5 rfl ?_
  refine v_iload dX11_decode_6 rfl ?_
  refine w_lshr dX11_decode_8 (W - 1) (2 ^ (W - 1)) rfl (by omega) (by omega) (by omega) ?_
  refine v_lconst (jL 1) dX11_decode_9 rfl ?_
  refine w_landm dX11_decode_10 1 2 rfl (by decide) rfl ?_
  refine w_el ((0:Nat):Int) (by rw [ipw, ← Int.natCast_ediv]; have := hbit (W - 1) (by omega); omega) ?_
  refine w_l2i dX11_decode_11 ?_
  refine v_istore (i := 5) (lv' := [(5, .int (iI ((0:Nat):Int))), (4, .int (iI ((w:Nat) - 2))), (0, .ref 47), (1, .long (jL (u:Nat))), (3, .int (iI (w:Nat)))]) dX11_decode_12 (by decide) rfl ?_
  refine v_iconst (iI 0) dX11_decode_14 rfl ?_
  refine v_istore (i := 6) (lv' := [(6, .int (iI 0)), (5, .int (iI ((0:Nat):Int))), (4, .int (iI ((w:Nat) - 2))), (0, .ref 47), (1, .long (jL (u:Nat))), (3, .int (iI (w:Nat)))]) dX11_decode_15 (by decide) rfl ?_
  refine w_sub (lv2 := [(0, .ref 47), (1, .long (jL (u:Nat))), (3, .int (iI (w:Nat))), (4, .int (iI ((w:Nat) - 2))), (5, .int (iI ((0:Nat):Int))), (6, .int (iI 0))]) [3, 4, 5, 2, 1, 0] rfl ?_
  exact loop W 0 _ (by omega) (by omega)
/-- widths and patterns of the places -/
def PL (wd pt : Nat → Nat) : Prop := ∀ i, i < 32 → 3 ≤ wd i ∧ wd i ≤ 32 ∧ pt i < 2 ^ wd i
set_option maxHeartbeats 8000000 in
set_option maxRecDepth 100000 in
theorem p_misNar {d n p : Nat} {wd pt : Nat → Nat} {vs vm ve sg e rt th tp wr at9 sz dg pw tn fm : Int} {h : zH} (h_47 : h 47 = oModel vs vm ve sg e rt th tp wr at9 sz dg pw tn fm) (h_48 : h 48 = aN 32 wd) (h_49 : h 49 = aM 32 pt) (hP : PL wd pt) (hp : p < 32) :
    zM yX11_isNar cX11_isNar 2 (some .boolean) d 0 0 [.ref 47, .int (iI (p:Nat))] h n (fun r h' n' => r = some (.int (iI (bz (decide (pt p = 2 ^ (wd p - 1)))))) ∧ n' = n ∧ h' = h) := by
  obtain ⟨h1, h2, h3⟩ := hP p hp
  have h4 : 2 ^ wd p ≤ 2 ^ 32 := Nat.pow_le_pow_right (by decide) h2
  have h5 : 2 ^ (wd p - 1) ≤ 2 ^ 31 := Nat.pow_le_pow_right (by decide) (by omega)
  obtain ⟨q, eq⟩ : ∃ q, 2 ^ (wd p - 1) = q := ⟨_, rfl⟩
  obtain ⟨q2, eq2⟩ : ∃ q2, 2 ^ wd p = q2 := ⟨_, rfl⟩
  rw [eq] at h5
  rw [eq2] at h3 h4
  refine zM_of zyX11_isNar rfl (Nat.le_of_ble_eq_true rfl) (fun X hX => ?_)
  refine v_aload_n dX11_isNar_0 rfl ?_
  refine v_get fX11_20 dX11_isNar_1 h_47 (by decide) rfl ?_
  refine v_iload_n dX11_isNar_4 rfl ?_
  refine w_mald dX11_isNar_5 h_49 p (by omega) (by omega) (by decide) ?_
  refine v_lconst (jL 1) dX11_isNar_6 rfl ?_
  refine v_aload_n dX11_isNar_7 rfl ?_
  refine v_get fX11_24 dX11_isNar_8 h_47 (by decide) rfl ?_
  refine v_iload_n dX11_isNar_11 rfl ?_
  refine w_nald dX11_isNar_12 h_48 p (by omega) (by omega) (by decide) ?_
  refine v_iconst (iI 1) dX11_isNar_13 rfl ?_
  refine w_isub dX11_isNar_14 ?_
  refine w_lshl dX11_isNar_15 (wd p - 1) (2 ^ (wd p - 1)) rfl (by omega) (by omega) ?_
  refine w_el (q:Nat) (by rw [ip, eq]) ?_
  refine w_lcmp_ne 24 dX11_isNar_16 dX11_isNar_17 (by decide) (by omega) (by omega) (fun c1 => ?_) (fun c1 => ?_)
  · skip
    refine v_iconst (iI 0) dX11_isNar_24 rfl ?_
    refine w_ei (bz false) rfl ?_
    exact v_iret dX11_isNar_25 bz_ret (Nat.le_of_ble_eq_true rfl) (Nat.le_of_ble_eq_true rfl) ⟨by rw [eq, decide_eq_false (by omega)], rfl, rfl⟩
  · skip
    refine v_iconst (iI 1) dX11_isNar_20 rfl ?_
    refine v_goto 25 dX11_isNar_21 (by decide) ?_
    refine w_ei (bz true) rfl ?_
    exact v_iret dX11_isNar_25 bz_ret (Nat.le_of_ble_eq_true rfl) (Nat.le_of_ble_eq_true rfl) ⟨by rw [eq, decide_eq_true (by omega)], rfl, rfl⟩
/-- what a look at a pattern p of width n says -/
def lk (p n : Nat) (s : Int) (M : Nat) (E : Int) : Prop := (p = 0 ∧ s = 0 ∧ M = 0 ∧ E = 0) ∨ (0 < p ∧ p < 2 ^ (n - 1) ∧ s = 1 ∧ md p n M E ∧ 0 < M ∧ -120 ≤ E ∧ E ≤ 120) ∨ (2 ^ (n - 1) < p ∧ s = -1 ∧ md (2 ^ n - p) n M E ∧ 0 < M ∧ -120 ≤ E ∧ E ≤ 120) ∨ (p = 2 ^ (n - 1) ∧ s = -1 ∧ M = 1)
set_option maxHeartbeats 8000000 in
set_option maxRecDepth 100000 in
theorem p_look {d n p : Nat} {wd pt : Nat → Nat} {vs vm ve sg e rt th tp wr at9 sz dg pw tn fm : Int} {h : zH} (h_47 : h 47 = oModel vs vm ve sg e rt th tp wr at9 sz dg pw tn fm) (h_48 : h 48 = aN 32 wd) (h_49 : h 49 = aM 32 pt) (hP : PL wd pt) (hp : p < 32) (hd : 2 ≤ d) :
    zM yX11_look cX11_look 5 none d 0 0 [.ref 47, .int (iI (p:Nat))] h n (fun r h' n' => r = none ∧ n' = n ∧ (∃ (s : Int) (M : Nat) (E : Int), h' 47 = oModel s (M:Nat) E sg e rt th tp wr at9 sz dg pw tn fm ∧ lk (pt p) (wd p) s M E ∧ M < 4294967296 ∧ -300 ≤ E ∧ E ≤ 300) ∧ zFr [47] h h') := by
  obtain ⟨h1, h2, h3⟩ := hP p hp
  obtain ⟨q, eq⟩ : ∃ q, 2 ^ (wd p - 1) = q := ⟨_, rfl⟩
  have e2 : 2 ^ wd p = 2 * q := by rw [← eq, Nat.mul_comm, ← Nat.pow_succ]; congr 1; omega
  have hq2 : q ≤ 2147483648 := by rw [← eq]; exact Nat.pow_le_pow_right (show 0 < 2 by decide) (show wd p - 1 ≤ 31 by omega)
  rw [e2] at h3
  refine zM_of zyX11_look rfl (Nat.le_of_ble_eq_true rfl) (fun X hX => ?_)
  have fr : zFr [47] h h := zFr.rf
  refine v_aload_n dX11_look_0 rfl ?_
  refine v_get fX11_20 dX11_look_1 h_47 (by decide) rfl ?_
  refine v_iload_n dX11_look_4 rfl ?_
  refine w_mald dX11_look_5 h_49 p (by omega) (by omega) (by decide) ?_
  refine v_lstore_n (i := 2) (lv' := [(2, .long (jL (pt p : Nat))), (0, .ref 47), (1, .int (iI (p:Nat)))]) dX11_look_6 rfl (by decide) rfl ?_
  refine v_aload_n dX11_look_7 rfl ?_
  refine v_get fX11_24 dX11_look_8 h_47 (by decide) rfl ?_
  refine v_iload_n dX11_look_11 rfl ?_
  refine w_nald dX11_look_12 h_48 p (by omega) (by omega) (by decide) ?_
  refine v_istore (i := 4) (lv' := [(4, .int (iI (wd p : Nat))), (2, .long (jL (pt p : Nat))), (0, .ref 47), (1, .int (iI (p:Nat)))]) dX11_look_13 (by decide) rfl ?_
  refine v_lload_n dX11_look_15 rfl ?_
  refine v_lconst (jL 0) dX11_look_16 rfl ?_
  refine w_lcmp_ne 39 dX11_look_17 dX11_look_18 (by decide) (by omega) (by decide) (fun c1 => ?_) (fun c1 => ?_)
  · skip
    refine v_lload_n dX11_look_39 rfl ?_
    refine v_lconst (jL 1) dX11_look_40 rfl ?_
    refine v_iload dX11_look_41 rfl ?_
    refine v_iconst (iI 1) dX11_look_43 rfl ?_
    refine w_isub dX11_look_44 ?_
    refine w_lshl dX11_look_45 (wd p - 1) (2 ^ (wd p - 1)) rfl (by omega) (by omega) ?_
    refine w_el (q:Nat) (by rw [ip, eq]) ?_
    refine w_lcmp_ge 60 dX11_look_46 dX11_look_47 (by decide) (by omega) (by omega) (fun c2 => ?_) (fun c2 => ?_)
    · skip
      refine v_aload_n dX11_look_60 rfl ?_
      refine v_lconst (jL 1) dX11_look_61 rfl ?_
      refine v_iload dX11_look_62 rfl ?_
      refine w_lshl dX11_look_64 (wd p) (2 ^ (wd p)) rfl (by omega) (by omega) ?_
      refine v_lload_n dX11_look_65 rfl ?_
      refine w_lsub dX11_look_66 ?_
      refine w_el (2 * q - pt p:Nat) (by rw [ip, e2]; omega) ?_
      refine v_iload dX11_look_67 rfl ?_
      rcases Nat.lt_or_ge q (pt p) with z | z
      · skip
        refine v_cV (av := [.long (jL (2 * q - pt p:Nat)), .int (iI (wd p : Nat))]) (st := []) zyX11_decode lX11_28 h_47 rfl (p_mdecode (d := 1) (u := 2 * q - pt p) h_47 (by omega) (by omega) (by rw [eq]; omega) (by decide)) dX11_look_69 rfl rfl (Nat.le_of_ble_eq_true rfl) (by omega) (Nat.le_of_ble_eq_true rfl) (Nat.le_of_ble_eq_true rfl) (Or.inl (fun _ _ _ q => ZN q)) (fun r9 G1 n9 q9 => ?_)
        obtain ⟨rfl, q9n, ⟨M, E, h_47, hmd, hM1, hM2, hE1, hE2, hE3⟩, fr9⟩ := q9
        have q9n := q9n.symm
        subst q9n
        have fr := fr.tr fr9 (by decide)
        refine v_aload_n dX11_look_72 rfl ?_
        refine v_iconst (iI (-1)) dX11_look_73 rfl ?_
        refine v_put (fs' := [.int (iI (-1)), .long (jL (M:Nat)), .int (iI E), .ref 48, .ref 49, .int (iI sg), .ref 50, .ref 52, .int (iI e), .int (iI rt), .ref 54, .ref 56, .ref 58, .ref 59, .ref 62, .ref 64, .int (iI th), .ref 66, .int (iI tp), .ref 67, .int (iI wr), .int (iI at9), .int (iI sz), .int (iI dg), .int (iI pw), .ref 68, .ref 69, .ref 71, .int (iI tn), .ref 73, .int (iI fm), .ref 74, .ref 76]) fX11_17 dX11_look_74 h_47 (by decide) (Nat.le_of_ble_eq_true rfl) rfl rfl rfl (fun H1 eH1 => ?_)
        have h_47 : H1 47 = oModel (-1) (M:Nat) E sg e rt th tp wr at9 sz dg pw tn fm := zf_same eH1
        have fr := fr.put eH1 (by simp)
        exact v_vret dX11_look_77 trivial (Nat.le_of_ble_eq_true rfl) (Nat.le_of_ble_eq_true rfl) ⟨rfl, rfl, ⟨_, M, E, h_47, Or.inr (Or.inr (Or.inl ⟨by rw [eq]; exact z, rfl, by rw [e2]; exact hmd, hM1, hE3 (by omega)⟩)), hM2, hE1, hE2⟩, fr⟩
      · skip
        refine v_cV (av := [.long (jL (2 * q - pt p:Nat)), .int (iI (wd p : Nat))]) (st := []) zyX11_decode lX11_28 h_47 rfl (p_mdecodeN (d := 1) h_47 (by omega) (by rw [eq]; omega) (by decide)) dX11_look_69 rfl rfl (Nat.le_of_ble_eq_true rfl) (by omega) (Nat.le_of_ble_eq_true rfl) (Nat.le_of_ble_eq_true rfl) (Or.inl (fun _ _ _ q => ZN q)) (fun r9 G1 n9 q9 => ?_)
        obtain ⟨rfl, q9n, ⟨E, h_47, hE1, hE2⟩, fr9⟩ := q9
        have q9n := q9n.symm
        subst q9n
        have fr := fr.tr fr9 (by decide)
        refine v_aload_n dX11_look_72 rfl ?_
        refine v_iconst (iI (-1)) dX11_look_73 rfl ?_
        refine v_put (fs' := [.int (iI (-1)), .long (jL 1), .int (iI E), .ref 48, .ref 49, .int (iI sg), .ref 50, .ref 52, .int (iI e), .int (iI rt), .ref 54, .ref 56, .ref 58, .ref 59, .ref 62, .ref 64, .int (iI th), .ref 66, .int (iI tp), .ref 67, .int (iI wr), .int (iI at9), .int (iI sz), .int (iI dg), .int (iI pw), .ref 68, .ref 69, .ref 71, .int (iI tn), .ref 73, .int (iI fm), .ref 74, .ref 76]) fX11_17 dX11_look_74 h_47 (by decide) (Nat.le_of_ble_eq_true rfl) rfl rfl rfl (fun H1 eH1 => ?_)
        have h_47 : H1 47 = oModel (-1) 1 E sg e rt th tp wr at9 sz dg pw tn fm := zf_same eH1
        have fr := fr.put eH1 (by simp)
        exact v_vret dX11_look_77 trivial (Nat.le_of_ble_eq_true rfl) (Nat.le_of_ble_eq_true rfl) ⟨rfl, rfl, ⟨_, 1, E, h_47, Or.inr (Or.inr (Or.inr ⟨by rw [eq]; omega, rfl, rfl⟩)), by decide, hE1, hE2⟩, fr⟩
    · skip
      refine v_aload_n dX11_look_50 rfl ?_
      refine v_lload_n dX11_look_51 rfl ?_
      refine v_iload dX11_look_52 rfl ?_
      refine v_cV (av := [.long (jL (pt p : Nat)), .int (iI (wd p : Nat))]) (st := []) zyX11_decode lX11_28 h_47 rfl (p_mdecode (d := 1) h_47 (by omega) (by omega) (by rw [eq]; omega) (by decide)) dX11_look_54 rfl rfl (Nat.le_of_ble_eq_true rfl) (by omega) (Nat.le_of_ble_eq_true rfl) (Nat.le_of_ble_eq_true rfl) (Or.inl (fun _ _ _ q => ZN q)) (fun r9 G1 n9 q9 => ?_)
      obtain ⟨rfl, q9n, ⟨M, E, h_47, hmd, hM1, hM2, hE1, hE2, hE3⟩, fr9⟩ := q9
      have q9n := q9n.symm
      subst q9n
      refine v_goto 77 dX11_look_57 (by decide) ?_
      exact v_vret dX11_look_77 trivial (Nat.le_of_ble_eq_true rfl) (Nat.le_of_ble_eq_true rfl) ⟨rfl, rfl, ⟨1, M, E, h_47, Or.inr (Or.inl ⟨by omega, by rw [eq]; omega, rfl, hmd, hM1, hE3 (by omega)⟩), hM2, hE1, hE2⟩, fr.tr fr9 (by decide)⟩
  · skip
    refine v_aload_n dX11_look_21 rfl ?_
    refine v_iconst (iI 0) dX11_look_22 rfl ?_
    refine v_put (fs' := [.int (iI 0), .long (jL vm), .int (iI ve), .ref 48, .ref 49, .int (iI sg), .ref 50, .ref 52, .int (iI e), .int (iI rt), .ref 54, .ref 56, .ref 58, .ref 59, .ref 62, .ref 64, .int (iI th), .ref 66, .int (iI tp), .ref 67, .int (iI wr), .int (iI at9), .int (iI sz), .int (iI dg), .int (iI pw), .ref 68, .ref 69, .ref 71, .int (iI tn), .ref 73, .int (iI fm), .ref 74, .ref 76]) fX11_17 dX11_look_23 h_47 (by decide) (Nat.le_of_ble_eq_true rfl) rfl rfl rfl (fun H1 eH1 => ?_)
    have h_47 : H1 47 = oModel 0 vm ve sg e rt th tp wr at9 sz dg pw tn fm := zf_same eH1
    have h_48 := (zf_ne eH1 (by decide)).trans h_48
    have h_49 := (zf_ne eH1 (by decide)).trans h_49
    have fr := fr.put eH1 (by simp)
    refine v_aload_n dX11_look_26 rfl ?_
    refine v_lconst (jL 0) dX11_look_27 rfl ?_
    refine v_put (fs' := [.int (iI 0), .long (jL 0), .int (iI ve), .ref 48, .ref 49, .int (iI sg), .ref 50, .ref 52, .int (iI e), .int (iI rt), .ref 54, .ref 56, .ref 58, .ref 59, .ref 62, .ref 64, .int (iI th), .ref 66, .int (iI tp), .ref 67, .int (iI wr), .int (iI at9), .int (iI sz), .int (iI dg), .int (iI pw), .ref 68, .ref 69, .ref 71, .int (iI tn), .ref 73, .int (iI fm), .ref 74, .ref 76]) fX11_7 dX11_look_28 h_47 (by decide) (Nat.le_of_ble_eq_true rfl) rfl rfl rfl (fun H2 eH2 => ?_)
    have h_47 : H2 47 = oModel 0 0 ve sg e rt th tp wr at9 sz dg pw tn fm := zf_same eH2
    have h_48 := (zf_ne eH2 (by decide)).trans h_48
    have h_49 := (zf_ne eH2 (by decide)).trans h_49
    have fr := fr.put eH2 (by simp)
    refine v_aload_n dX11_look_31 rfl ?_
    refine v_iconst (iI 0) dX11_look_32 rfl ?_
    refine v_put (fs' := [.int (iI 0), .long (jL 0), .int (iI 0), .ref 48, .ref 49, .int (iI sg), .ref 50, .ref 52, .int (iI e), .int (iI rt), .ref 54, .ref 56, .ref 58, .ref 59, .ref 62, .ref 64, .int (iI th), .ref 66, .int (iI tp), .ref 67, .int (iI wr), .int (iI at9), .int (iI sz), .int (iI dg), .int (iI pw), .ref 68, .ref 69, .ref 71, .int (iI tn), .ref 73, .int (iI fm), .ref 74, .ref 76]) fX11_13 dX11_look_33 h_47 (by decide) (Nat.le_of_ble_eq_true rfl) rfl rfl rfl (fun H3 eH3 => ?_)
    have h_47 : H3 47 = oModel 0 0 0 sg e rt th tp wr at9 sz dg pw tn fm := zf_same eH3
    have h_48 := (zf_ne eH3 (by decide)).trans h_48
    have h_49 := (zf_ne eH3 (by decide)).trans h_49
    have fr := fr.put eH3 (by simp)
    refine v_goto 77 dX11_look_36 (by decide) ?_
    exact v_vret dX11_look_77 trivial (Nat.le_of_ble_eq_true rfl) (Nat.le_of_ble_eq_true rfl) ⟨rfl, rfl, ⟨0, 0, 0, h_47, Or.inl ⟨by omega, rfl, rfl, rfl⟩, by decide, by decide, by decide⟩, fr⟩
set_option maxHeartbeats 8000000 in
set_option maxRecDepth 100000 in
theorem p_begin {d n : Nat} {s vs vm ve sg e rt th tp wr at9 sz dg pw tn fm : Int} {h : zH} (h_47 : h 47 = oModel vs vm ve sg e rt th tp wr at9 sz dg pw tn fm) (hA : NS h 50 51) (hB : NS h 52 53) (hd : 1 ≤ d) :
    zM yX11_begin cX11_begin 2 none d 0 0 [.ref 47, .int (iI s)] h n (fun r h' n' => r = none ∧ n' = n ∧ h' 47 = oModel vs vm ve s 0 1 th tp wr at9 sz dg pw tn fm ∧ ND h' 50 51 1 ∧ ND h' 52 53 1 ∧ zFr [47, 50, 51, 52, 53] h h') := by
  refine zM_of zyX11_begin rfl (Nat.le_of_ble_eq_true rfl) (fun X hX => ?_)
  have fr : zFr [47, 50, 51, 52, 53] h h := zFr.rf
  refine v_aload_n dX11_begin_0 rfl ?_
  refine v_iload_n dX11_begin_1 rfl ?_
  refine v_put (fs' := [.int (iI vs), .long (jL vm), .int (iI ve), .ref 48, .ref 49, .int (iI s), .ref 50, .ref 52, .int (iI e), .int (iI rt), .ref 54, .ref 56, .ref 58, .ref 59, .ref 62, .ref 64, .int (iI th), .ref 66, .int (iI tp), .ref 67, .int (iI wr), .int (iI at9), .int (iI sz), .int (iI dg), .int (iI pw), .ref 68, .ref 69, .ref 71, .int (iI tn), .ref 73, .int (iI fm), .ref 74, .ref 76]) fX11_32 dX11_begin_2 h_47 (by decide) (Nat.le_of_ble_eq_true rfl) rfl rfl rfl (fun H1 eH1 => ?_)
  have h_47 : H1 47 = oModel vs vm ve s e rt th tp wr at9 sz dg pw tn fm := zf_same eH1
  have fr := fr.put eH1 (by simp)
  refine v_aload_n dX11_begin_5 rfl ?_
  refine v_get fX11_35 dX11_begin_6 h_47 (by decide) rfl ?_
  refine v_lconst (jL 1) dX11_begin_9 rfl ?_
  have fz : zFr [47] h H1 := zFr.put zFr.rf eH1 (by simp)
  have hA := hA.fr fz (by decide) (by decide)
  have hB := hB.fr fz (by decide) (by decide)
  obtain ⟨_, _, h_50, -⟩ := id hA
  refine v_cV (av := [.long (jL 1)]) (st := []) zyX9_set lX11_39 h_50 rfl (p_nset (d := 0) (x := 1) hA (by decide) (by decide) (by decide)) dX11_begin_10 rfl rfl (Nat.le_of_ble_eq_true rfl) (by omega) (Nat.le_of_ble_eq_true rfl) (Nat.le_of_ble_eq_true rfl) (Or.inl (fun _ _ _ q => ZN q)) (fun r9 G1 n9 q9 => ?_)
  obtain ⟨rfl, q9n, hA, fr9⟩ := q9
  have q9n := q9n.symm
  subst q9n
  have hB := hB.fr fr9 (by decide) (by decide)
  have h_47 := (fr9 47 (by decide)).trans h_47
  have fr := fr.tr fr9 (by decide)
  refine v_aload_n dX11_begin_13 rfl ?_
  refine v_get fX11_45 dX11_begin_14 h_47 (by decide) rfl ?_
  refine v_lconst (jL 1) dX11_begin_17 rfl ?_
  obtain ⟨_, _, h_52, -⟩ := id hB
  refine v_cV (av := [.long (jL 1)]) (st := []) zyX9_set lX11_39 h_52 rfl (p_nset (d := 0) (x := 1) hB (by decide) (by decide) (by decide)) dX11_begin_18 rfl rfl (Nat.le_of_ble_eq_true rfl) (by omega) (Nat.le_of_ble_eq_true rfl) (Nat.le_of_ble_eq_true rfl) (Or.inl (fun _ _ _ q => ZN q)) (fun r9 G2 n9 q9 => ?_)
  obtain ⟨rfl, q9n, hB, fr8⟩ := q9
  have q9n := q9n.symm
  subst q9n
  have hA := hA.fr fr8 (by decide) (by decide)
  have h_47 := (fr8 47 (by decide)).trans h_47
  have fr := fr.tr fr8 (by decide)
  refine v_aload_n dX11_begin_21 rfl ?_
  refine v_iconst (iI 0) dX11_begin_22 rfl ?_
  refine v_put (fs' := [.int (iI vs), .long (jL vm), .int (iI ve), .ref 48, .ref 49, .int (iI s), .ref 50, .ref 52, .int (iI 0), .int (iI rt), .ref 54, .ref 56, .ref 58, .ref 59, .ref 62, .ref 64, .int (iI th), .ref 66, .int (iI tp), .ref 67, .int (iI wr), .int (iI at9), .int (iI sz), .int (iI dg), .int (iI pw), .ref 68, .ref 69, .ref 71, .int (iI tn), .ref 73, .int (iI fm), .ref 74, .ref 76]) fX11_48 dX11_begin_23 h_47 (by decide) (Nat.le_of_ble_eq_true rfl) rfl rfl rfl (fun H2 eH2 => ?_)
  have h_47 : H2 47 = oModel vs vm ve s 0 rt th tp wr at9 sz dg pw tn fm := zf_same eH2
  have fr := fr.put eH2 (by simp)
  refine v_aload_n dX11_begin_26 rfl ?_
  refine v_iconst (iI 1) dX11_begin_27 rfl ?_
  refine v_put (fs' := [.int (iI vs), .long (jL vm), .int (iI ve), .ref 48, .ref 49, .int (iI s), .ref 50, .ref 52, .int (iI 0), .int (iI 1), .ref 54, .ref 56, .ref 58, .ref 59, .ref 62, .ref 64, .int (iI th), .ref 66, .int (iI tp), .ref 67, .int (iI wr), .int (iI at9), .int (iI sz), .int (iI dg), .int (iI pw), .ref 68, .ref 69, .ref 71, .int (iI tn), .ref 73, .int (iI fm), .ref 74, .ref 76]) fX11_51 dX11_begin_28 h_47 (by decide) (Nat.le_of_ble_eq_true rfl) rfl rfl rfl (fun H3 eH3 => ?_)
  have h_47 : H3 47 = oModel vs vm ve s 0 1 th tp wr at9 sz dg pw tn fm := zf_same eH3
  have fr := fr.put eH3 (by simp)
  have fz : zFr [47] G2 H3 := (zFr.put zFr.rf eH2 (by simp)).put eH3 (by simp)
  exact v_vret dX11_begin_31 trivial (Nat.le_of_ble_eq_true rfl) (Nat.le_of_ble_eq_true rfl) ⟨rfl, rfl, h_47, hA.fr fz (by decide) (by decide), hB.fr fz (by decide) (by decide), fr⟩
