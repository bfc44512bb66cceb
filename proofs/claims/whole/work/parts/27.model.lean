/-! The reference: a pattern taken apart -/
abbrev oModel (vs vm ve sg e rt th tp wr at9 sz dg pw tn fm : Int) : zC := .inr (10, [.int (iI vs), .long (jL vm), .int (iI ve), .ref 48, .ref 49, .int (iI sg), .ref 50, .ref 52, .int (iI e), .int (iI rt), .ref 54, .ref 56, .ref 58, .ref 59, .ref 62, .ref 64, .int (iI th), .ref 66, .int (iI tp), .ref 67, .int (iI wr), .int (iI at9), .int (iI sz), .int (iI dg), .int (iI pw), .ref 68, .ref 69, .ref 71, .int (iI tn), .ref 73, .int (iI fm), .ref 74, .ref 76])
theorem dec_mk0 {u W k b D : Nat} (hW : W ≤ 32) (hk : 1 ≤ k) (hb : b + 1 + k = W) (hD : D < 2 ^ b) (e : u = 2 ^ b + D) : dec u (W + 1) (-(k : Int)) (D * 2 ^ (32 - b)) := by
  refine ⟨by omega, by omega, ?_, ?_⟩
  · have := Nat.mul_lt_mul_of_pos_right hD (p_pos (32 - b))
    rw [← Nat.pow_add, show b + (32 - b) = 32 from by omega] at this
    exact this
  · unfold enc
    rw [if_neg (by omega), show (- -(k : Int)).toNat = k from by omega, show 73 - (W + 1) = 72 - W from by omega, Nat.mul_assoc, ← Nat.pow_add, e, Nat.add_mul, ← Nat.pow_add, show b + (72 - W) = 71 - k from by omega, show 32 - b + (39 - k) = 72 - W from by omega]
theorem dec_mk1 {u W k b D : Nat} (hW : W ≤ 32) (hk : 1 ≤ k) (hb : b + 1 + k = W) (hD : D < 2 ^ b) (e : u + 2 ^ (W - k) = 2 ^ W + D) : dec u (W + 1) ((k : Int) - 1) (D * 2 ^ (32 - b)) := by
  refine ⟨by omega, by omega, ?_, ?_⟩
  · have := Nat.mul_lt_mul_of_pos_right hD (p_pos (32 - b))
    rw [← Nat.pow_add, show b + (32 - b) = 32 from by omega] at this
    exact this
  · unfold enc
    rw [if_pos (by omega), show ((k : Int) - 1).toNat = k - 1 from by omega, show 73 - (W + 1) = 72 - W from by omega, Nat.mul_assoc, ← Nat.pow_add, show 32 - b + (38 - (k - 1)) = 72 - W from by omega]
    have e2 := congrArg (· * 2 ^ (72 - W)) e
    simp only [Nat.add_mul] at e2
    rw [← Nat.pow_add, ← Nat.pow_add, show W - k + (72 - W) = 71 - (k - 1) from by omega, show W + (72 - W) = 72 from by omega] at e2
    have h5 : 2 ^ (71 - (k - 1)) ≤ 2 ^ 71 := Nat.pow_le_pow_right (by decide) (by omega)
    omega
theorem dec_mkF {u W : Nat} (hW : W ≤ 32) (hW1 : 1 ≤ W) (e : u + 1 = 2 ^ W) : dec u (W + 1) ((W : Int) - 1) 0 := by
  refine ⟨by omega, by omega, by decide, ?_⟩
  unfold enc
  rw [if_pos (by omega), show ((W : Int) - 1).toNat = W - 1 from by omega, show 73 - (W + 1) = 72 - W from by omega, Nat.zero_mul]
  have e2 := congrArg (· * 2 ^ (72 - W)) e
  simp only [Nat.add_mul] at e2
  rw [Nat.one_mul, ← Nat.pow_add, show W + (72 - W) = 72 from by omega] at e2
  rw [show 71 - (W - 1) = 72 - W from by omega]
  omega
theorem bit_low {u b D j : Nat} (h : u % 2 ^ b = D) (hj : j < b) : u / 2 ^ j % 2 = D / 2 ^ j % 2 := by
  rw [← h, show b = j + (1 + (b - j - 1)) from by omega, Nat.pow_add, Nat.mod_mul_right_div_self, Nat.pow_add, Nat.mod_mul_right_mod]
/-- the exponent's two bits and the fraction of a tail of b bits -/
theorem ef_eq {b D : Nat} (hb : b ≤ 31) (hD : D < 2 ^ b) : D * 2 ^ (32 - b) / 1073741824 = 2 * (if 1 ≤ b then D / 2 ^ (b - 1) % 2 else 0) + (if 2 ≤ b then D / 2 ^ (b - 2) % 2 else 0) ∧ D * 2 ^ (32 - b) % 1073741824 = D % 2 ^ (b - 2) * 2 ^ (30 - (b - 2)) := by
  rcases Nat.lt_or_ge b 2 with q | q
  · have : b = 0 ∨ b = 1 := by omega
    rcases this with rfl | rfl
    · have : D = 0 := by have : (2 : Nat) ^ 0 = 1 := rfl; omega
      subst this; exact ⟨rfl, rfl⟩
    · have : D = 0 ∨ D = 1 := by have : (2 : Nat) ^ 1 = 2 := rfl; omega
      rcases this with rfl | rfl
      · exact ⟨rfl, rfl⟩
      · exact ⟨rfl, rfl⟩
  · have e1 : (1073741824 : Nat) = 2 ^ (b - 2) * 2 ^ (32 - b) := by rw [← Nat.pow_add, show b - 2 + (32 - b) = 30 from by omega]
    constructor
    · rw [e1, Nat.mul_div_mul_right _ _ (p_pos _), if_pos (by omega), if_pos q]
      have e2 : 2 ^ (b - 1) = 2 ^ (b - 2) * 2 := by rw [← Nat.pow_succ]; congr 1; omega
      have e3 : 2 ^ b = 2 ^ (b - 2) * 4 := by rw [show (4 : Nat) = 2 ^ 2 from rfl, ← Nat.pow_add]; congr 1; omega
      rw [e2, ← Nat.div_div_eq_div_mul]
      have h3 : D / 2 ^ (b - 2) < 4 := Nat.div_lt_of_lt_mul (by rw [← e3]; exact hD)
      generalize D / 2 ^ (b - 2) = q at h3 ⊢
      omega
    · rw [e1, Nat.mul_mod_mul_right, show 30 - (b - 2) = 32 - b from by omega]
set_option maxHeartbeats 8000000 in
set_option maxRecDepth 100000 in
theorem p_mdecode {d n u w : Nat} {vs vm ve sg e rt th tp wr at9 sz dg pw tn fm : Int} {h : zH} (h_47 : h 47 = oModel vs vm ve sg e rt th tp wr at9 sz dg pw tn fm) (hw : 3 ≤ w ∧ w ≤ 33) (hu0 : 0 < u) (hu : u < 2 ^ (w - 1)) (hd : 1 ≤ d) :
    zM yX11_decode cX11_decode 9 none d 0 0 [.ref 47, .long (jL (u:Nat)), .int (iI (w:Nat))] h n (fun r h' n' => r = none ∧ n' = n ∧ (∃ (M : Nat) (E : Int), h' 47 = oModel 1 (M:Nat) E sg e rt th tp wr at9 sz dg pw tn fm ∧ md u w M E ∧ 0 < M ∧ M < 4294967296 ∧ -300 ≤ E ∧ E ≤ 300 ∧ (w ≤ 32 → -120 ≤ E ∧ E ≤ 120)) ∧ zFr [47] h h') := by
  obtain ⟨W, eW⟩ : ∃ W, w - 1 = W := ⟨_, rfl⟩
  have ew : w = W + 1 := by omega
  rw [eW] at hu
  have hu32 : u < 4294967296 := Nat.lt_of_lt_of_le hu (Nat.pow_le_pow_right (show 0 < 2 by decide) (show W ≤ 32 by omega))
  refine zM_of zyX11_decode rfl (Nat.le_of_ble_eq_true rfl) (fun X hX => ?_)
  have fr : zFr [47] h h := zFr.rf
  have fin : ∀ (f ee k fb M : Nat) (r E : Int), f ≤ 30 → ee < 4 → k ≤ 33 → fb ≤ 1 → u % 2 ^ f + 2 ^ f = M → r = (if fb = 1 then (k : Int) - 1 else -(k : Int)) → E = 4 * r + ee - f → md u w M E → (w ≤ 32 → -120 ≤ E ∧ E ≤ 120) → (zV X (fun r h' n' => r = none ∧ n' = n ∧ (∃ (M : Nat) (E : Int), h' 47 = oModel 1 (M:Nat) E sg e rt th tp wr at9 sz dg pw tn fm ∧ md u w M E ∧ 0 < M ∧ M < 4294967296 ∧ -300 ≤ E ∧ E ≤ 300 ∧ (w ≤ 32 → -120 ≤ E ∧ E ≤ 120)) ∧ zFr [47] h h') cX11_decode 9 RX11 none d 0 0 101 [(0, .ref 47), (1, .long (jL (u:Nat))), (5, .int (iI (fb:Nat))), (6, .int (iI (k:Nat))), (7, .int (iI (ee:Nat))), (8, .int (iI (f:Nat)))] [] h n 0 0) := by
    intro f ee k fb M r E hf hee hk hfb eM er eE hmd hEb
    have hP : 2 ^ f ≤ 2 ^ 30 := Nat.pow_le_pow_right (by decide) hf
    have hPp := p_pos f
    have hm := Nat.mod_lt u hPp
    refine v_aload_n dX11_decode_101 rfl ?_
    refine v_lconst (jL 1) dX11_decode_102 rfl ?_
    refine v_iload dX11_decode_103 rfl ?_
    refine w_lshl dX11_decode_105 f (2 ^ f) rfl (by omega) (by omega) ?_
    refine w_el (2 ^ f:Nat) (ip f) ?_
    refine v_lload_n dX11_decode_106 rfl ?_
    refine v_lconst (jL 1) dX11_decode_107 rfl ?_
    refine v_iload dX11_decode_108 rfl ?_
    refine w_lshl dX11_decode_110 f (2 ^ f) rfl (by omega) (by omega) ?_
    refine w_el (2 ^ f:Nat) (ip f) ?_
    refine v_lconst (jL 1) dX11_decode_111 rfl ?_
    refine w_lsub dX11_decode_112 ?_
    refine w_landm dX11_decode_113 f (2 ^ f) rfl (by omega) (by rw [ipw]) ?_
    refine w_el (u % 2 ^ f:Nat) (by rw [ipw, Int.natCast_emod]) ?_
    refine w_lor dX11_decode_114 f (2 ^ f) rfl (by omega) (by rw [ipw, Int.emod_self]) (by rw [ipw]; omega) ?_
    refine w_el (M:Nat) (by rw [← eM]; omega) ?_
    have j136 : ∀ (H : zH), H 47 = oModel vs (M:Nat) ve sg e rt th tp wr at9 sz dg pw tn fm → zFr [47] h H → (zV X (fun r h' n' => r = none ∧ n' = n ∧ (∃ (M : Nat) (E : Int), h' 47 = oModel 1 (M:Nat) E sg e rt th tp wr at9 sz dg pw tn fm ∧ md u w M E ∧ 0 < M ∧ M < 4294967296 ∧ -300 ≤ E ∧ E ≤ 300 ∧ (w ≤ 32 → -120 ≤ E ∧ E ≤ 120)) ∧ zFr [47] h h') cX11_decode 9 RX11 none d 0 0 136 [(0, .ref 47), (7, .int (iI (ee:Nat))), (8, .int (iI (f:Nat)))] [.int (iI r), .int (iI 4), .ref 47] H n 0 0) := by
      intro H h_47 fr
      refine w_imul dX11_decode_136 ?_
      refine v_iload dX11_decode_137 rfl ?_
      refine w_iadd dX11_decode_139 ?_
      refine v_iload dX11_decode_140 rfl ?_
      refine w_isub dX11_decode_142 ?_
      refine w_ei E (by omega) ?_
      refine v_put (fs' := [.int (iI vs), .long (jL (M:Nat)), .int (iI E), .ref 48, .ref 49, .int (iI sg), .ref 50, .ref 52, .int (iI e), .int (iI rt), .ref 54, .ref 56, .ref 58, .ref 59, .ref 62, .ref 64, .int (iI th), .ref 66, .int (iI tp), .ref 67, .int (iI wr), .int (iI at9), .int (iI sz), .int (iI dg), .int (iI pw), .ref 68, .ref 69, .ref 71, .int (iI tn), .ref 73, .int (iI fm), .ref 74, .ref 76]) fX11_13 dX11_decode_143 h_47 (by decide) (Nat.le_of_ble_eq_true rfl) rfl rfl rfl (fun H1 eH1 => ?_)
      have h_47 : H1 47 = oModel vs (M:Nat) E sg e rt th tp wr at9 sz dg pw tn fm := zf_same eH1
      have fr := fr.put eH1 (by simp)
      refine v_aload_n dX11_decode_146 rfl ?_
      refine v_iconst (iI 1) dX11_decode_147 rfl ?_
      refine v_put (fs' := [.int (iI 1), .long (jL (M:Nat)), .int (iI E), .ref 48, .ref 49, .int (iI sg), .ref 50, .ref 52, .int (iI e), .int (iI rt), .ref 54, .ref 56, .ref 58, .ref 59, .ref 62, .ref 64, .int (iI th), .ref 66, .int (iI tp), .ref 67, .int (iI wr), .int (iI at9), .int (iI sz), .int (iI dg), .int (iI pw), .ref 68, .ref 69, .ref 71, .int (iI tn), .ref 73, .int (iI fm), .ref 74, .ref 76]) fX11_17 dX11_decode_148 h_47 (by decide) (Nat.le_of_ble_eq_true rfl) rfl rfl rfl (fun H2 eH2 => ?_)
      have h_47 : H2 47 = oModel 1 (M:Nat) E sg e rt th tp wr at9 sz dg pw tn fm := zf_same eH2
      have fr := fr.put eH2 (by simp)
      exact v_vret dX11_decode_151 trivial (Nat.le_of_ble_eq_true rfl) (Nat.le_of_ble_eq_true rfl) ⟨rfl, rfl, ⟨M, E, h_47, hmd, by omega, by omega, by split at er <;> omega, by split at er <;> omega, hEb⟩, fr⟩
    refine v_put (fs' := [.int (iI vs), .long (jL (M:Nat)), .int (iI ve), .ref 48, .ref 49, .int (iI sg), .ref 50, .ref 52, .int (iI e), .int (iI rt), .ref 54, .ref 56, .ref 58, .ref 59, .ref 62, .ref 64, .int (iI th), .ref 66, .int (iI tp), .ref 67, .int (iI wr), .int (iI at9), .int (iI sz), .int (iI dg), .int (iI pw), .ref 68, .ref 69, .ref 71, .int (iI tn), .ref 73, .int (iI fm), .ref 74, .ref 76]) fX11_7 dX11_decode_115 h_47 (by decide) (Nat.le_of_ble_eq_true rfl) rfl rfl rfl (fun H1 eH1 => ?_)
    have h_47 : H1 47 = oModel vs (M:Nat) ve sg e rt th tp wr at9 sz dg pw tn fm := zf_same eH1
    have fr := fr.put eH1 (by simp)
    refine v_aload_n dX11_decode_118 rfl ?_
    refine v_iconst (iI 4) dX11_decode_119 rfl ?_
    refine v_iload dX11_decode_120 rfl ?_
    refine v_iconst (iI 1) dX11_decode_122 rfl ?_
    refine w_icmp_ne 133 dX11_decode_123 (by decide) (by omega) (by decide) (fun c1 => ?_) (fun c1 => ?_)
    · rw [if_neg (by omega)] at er
      refine v_iload dX11_decode_133 rfl ?_
      refine w_ineg dX11_decode_135 ?_
      refine w_ei r er.symm ?_
      refine w_sub (lv2 := [(0, .ref 47), (7, .int (iI (ee:Nat))), (8, .int (iI (f:Nat)))]) [0, 4, 5] rfl ?_
      exact j136 _ h_47 fr
    · rw [if_pos (by omega)] at er
      refine v_iload dX11_decode_126 rfl ?_
      refine v_iconst (iI 1) dX11_decode_128 rfl ?_
      refine w_isub dX11_decode_129 ?_
      refine v_goto 136 dX11_decode_130 (by decide) ?_
      refine w_ei r er.symm ?_
      refine w_sub (lv2 := [(0, .ref 47), (7, .int (iI (ee:Nat))), (8, .int (iI (f:Nat)))]) [0, 4, 5] rfl ?_
      exact j136 _ h_47 fr
  have tl : ∀ (k b D fb : Nat) (y : Int), k + 1 + b = W → y = (b : Int) → fb ≤ 1 → u % 2 ^ b = D → dec u w (if fb = 1 then (k : Int) - 1 else -(k : Int)) (D * 2 ^ (32 - b)) → (zV X (fun r h' n' => r = none ∧ n' = n ∧ (∃ (M : Nat) (E : Int), h' 47 = oModel 1 (M:Nat) E sg e rt th tp wr at9 sz dg pw tn fm ∧ md u w M E ∧ 0 < M ∧ M < 4294967296 ∧ -300 ≤ E ∧ E ≤ 300 ∧ (w ≤ 32 → -120 ≤ E ∧ E ≤ 120)) ∧ zFr [47] h h') cX11_decode 9 RX11 none d 0 0 44 [(0, .ref 47), (1, .long (jL (u:Nat))), (3, .int (iI (w:Nat))), (4, .int (iI y)), (5, .int (iI (fb:Nat))), (6, .int (iI (k:Nat)))] [] h n 0 0) := by
    intro k b D fb y hkb ey hfb hD hdec
    have hDb : D < 2 ^ b := by rw [← hD]; exact Nat.mod_lt _ (p_pos b)
    have hef := ef_eq (b := b) (D := D) (by omega) hDb
    obtain ⟨e1, ee1⟩ : ∃ e1, (if 1 ≤ b then D / 2 ^ (b - 1) % 2 else 0) = e1 := ⟨_, rfl⟩
    obtain ⟨e2, ee2⟩ : ∃ e2, (if 2 ≤ b then D / 2 ^ (b - 2) % 2 else 0) = e2 := ⟨_, rfl⟩
    rw [ee1, ee2] at hef
    have he1 : e1 < 2 := by rw [← ee1]; split <;> omega
    have he2 : e2 < 2 := by rw [← ee2]; split <;> omega
    have hfr : u % 2 ^ (b - 2) = D % 2 ^ (b - 2) := by rw [← hD, Nat.mod_mod_of_dvd _ (Nat.pow_dvd_pow 2 (by omega))]
    have last : ∀ (y9 i : Int), y9 = (b : Int) - 3 → i = 2 → (zV X (fun r h' n' => r = none ∧ n' = n ∧ (∃ (M : Nat) (E : Int), h' 47 = oModel 1 (M:Nat) E sg e rt th tp wr at9 sz dg pw tn fm ∧ md u w M E ∧ 0 < M ∧ M < 4294967296 ∧ -300 ≤ E ∧ E ≤ 300 ∧ (w ≤ 32 → -120 ≤ E ∧ E ≤ 120)) ∧ zFr [47] h h') cX11_decode 9 RX11 none d 0 0 53 [(0, .ref 47), (1, .long (jL (u:Nat))), (3, .int (iI (w:Nat))), (4, .int (iI y9)), (5, .int (iI (fb:Nat))), (6, .int (iI (k:Nat))), (7, .int (iI (2 * e1 + e2:Nat))), (8, .int (iI i))] [] h n 0 0) := by
      intro y9 i hy9 hi
      refine v_iload dX11_decode_53 rfl ?_
      refine v_iconst (iI 2) dX11_decode_55 rfl ?_
      refine w_icmp_ge 91 dX11_decode_56 (by decide) (by omega) (by decide) (fun c1 => ?_) (fun c1 => ?_)
      · skip
        refine v_iconst (iI 0) dX11_decode_91 rfl ?_
        refine v_iload dX11_decode_92 rfl ?_
        refine v_iconst (iI 1) dX11_decode_94 rfl ?_
        refine w_iadd dX11_decode_95 ?_
        refine v_cS (av := [.int (iI 0), .int (iI (y9 + 1))]) (st := []) zyJ9_max_7cf53 lX11_1 (p_max (d := 0) (by decide) (by omega)) dX11_decode_96 rfl rfl (Nat.le_of_ble_eq_true rfl) (by omega) (Nat.le_of_ble_eq_true rfl) (Nat.le_of_ble_eq_true rfl) (Or.inl (fun _ _ _ q => ZN q)) (fun r9 K1 n9 q9 => ?_)
        obtain ⟨rfl, q9n, q9h⟩ := q9
        have q9n := q9n.symm
        subst q9n
        have q9h := q9h.symm
        subst q9h
        refine w_ei (b - 2:Nat) (by omega) ?_
        refine v_istore (i := 8) (lv' := [(8, .int (iI (b - 2:Nat))), (0, .ref 47), (1, .long (jL (u:Nat))), (3, .int (iI (w:Nat))), (4, .int (iI y9)), (5, .int (iI (fb:Nat))), (6, .int (iI (k:Nat))), (7, .int (iI (2 * e1 + e2:Nat)))]) dX11_decode_99 (by decide) rfl ?_
        refine w_sub (lv2 := [(0, .ref 47), (1, .long (jL (u:Nat))), (5, .int (iI (fb:Nat))), (6, .int (iI (k:Nat))), (7, .int (iI (2 * e1 + e2:Nat))), (8, .int (iI (b - 2:Nat)))]) [1, 2, 5, 6, 7, 0] rfl ?_
        refine fin (b - 2) (2 * e1 + e2) k fb _ _ _ (by omega) (by omega) (by omega) hfb rfl rfl rfl (md_of hdec (j := 30 - (b - 2)) ?_ ?_) (fun z => by split <;> omega)
        · rw [hfr, hef.2, Nat.add_mul, ← Nat.pow_add, show b - 2 + (30 - (b - 2)) = 30 from by omega, Nat.add_comm]
        · rw [hef.1]; omega
      · exact absurd c1 (by omega)
    have second : ∀ (y9 i : Int), y9 = (b : Int) - 2 → i = 1 → (zV X (fun r h' n' => r = none ∧ n' = n ∧ (∃ (M : Nat) (E : Int), h' 47 = oModel 1 (M:Nat) E sg e rt th tp wr at9 sz dg pw tn fm ∧ md u w M E ∧ 0 < M ∧ M < 4294967296 ∧ -300 ≤ E ∧ E ≤ 300 ∧ (w ≤ 32 → -120 ≤ E ∧ E ≤ 120)) ∧ zFr [47] h h') cX11_decode 9 RX11 none d 0 0 53 [(0, .ref 47), (1, .long (jL (u:Nat))), (3, .int (iI (w:Nat))), (4, .int (iI y9)), (5, .int (iI (fb:Nat))), (6, .int (iI (k:Nat))), (7, .int (iI (e1:Nat))), (8, .int (iI i))] [] h n 0 0) := by
      intro y9 i hy9 hi
      refine v_iload dX11_decode_53 rfl ?_
      refine v_iconst (iI 2) dX11_decode_55 rfl ?_
      refine w_icmp_ge 91 dX11_decode_56 (by decide) (by omega) (by decide) (fun c1 => ?_) (fun c1 => ?_)
      · exact absurd c1 (by omega)
      · skip
        refine v_iconst (iI 2) dX11_decode_59 rfl ?_
        refine v_iload dX11_decode_60 rfl ?_
        refine w_imul dX11_decode_62 ?_
        refine v_iload dX11_decode_63 rfl ?_
        refine w_if_lt 78 dX11_decode_65 (by decide) (by omega) (fun c2 => ?_) (fun c2 => ?_)
        · skip
          refine v_iconst (iI 0) dX11_decode_78 rfl ?_
          refine w_iadd dX11_decode_79 ?_
          refine w_ei (2 * e1 + e2:Nat) (by rw [← ee2, if_neg (by omega)]; omega) ?_
          refine v_istore (i := 7) (lv' := [(7, .int (iI (2 * e1 + e2:Nat))), (0, .ref 47), (1, .long (jL (u:Nat))), (3, .int (iI (w:Nat))), (4, .int (iI y9)), (5, .int (iI (fb:Nat))), (6, .int (iI (k:Nat))), (8, .int (iI i))]) dX11_decode_80 (by decide) rfl ?_
          refine w_iinc (lv' := [(4, .int (iI (y9 + (-1)))), (7, .int (iI (2 * e1 + e2:Nat))), (0, .ref 47), (1, .long (jL (u:Nat))), (3, .int (iI (w:Nat))), (5, .int (iI (fb:Nat))), (6, .int (iI (k:Nat))), (8, .int (iI i))]) dX11_decode_82 rfl (by decide) rfl ?_
          refine w_iinc (lv' := [(8, .int (iI (i + 1))), (4, .int (iI (y9 + (-1)))), (7, .int (iI (2 * e1 + e2:Nat))), (0, .ref 47), (1, .long (jL (u:Nat))), (3, .int (iI (w:Nat))), (5, .int (iI (fb:Nat))), (6, .int (iI (k:Nat)))]) dX11_decode_85 rfl (by decide) rfl ?_
          refine v_goto 53 dX11_decode_88 (by decide) ?_
          refine w_sub (lv2 := [(0, .ref 47), (1, .long (jL (u:Nat))), (3, .int (iI (w:Nat))), (4, .int (iI (y9 + (-1)))), (5, .int (iI (fb:Nat))), (6, .int (iI (k:Nat))), (7, .int (iI (2 * e1 + e2:Nat))), (8, .int (iI (i + 1)))]) [3, 4, 5, 1, 6, 7, 2, 0] rfl ?_
          exact last _ _ (by omega) (by omega)
        · skip
          refine v_lload_n dX11_decode_68 rfl ?_
          refine v_iload dX11_decode_69 rfl ?_
          refine w_lshr dX11_decode_71 (b - 2) (2 ^ (b - 2)) rfl (by omega) (by omega) (by omega) ?_
          refine v_lconst (jL 1) dX11_decode_72 rfl ?_
          refine w_landm dX11_decode_73 1 2 rfl (by decide) rfl ?_
          refine w_el (e2:Nat) (by rw [ipw, ← Int.natCast_ediv, ← ee2, if_pos (by omega), ← bit_low hD (by omega), Int.natCast_emod]; rfl) ?_
          refine w_l2i dX11_decode_74 ?_
          refine v_goto 79 dX11_decode_75 (by decide) ?_
          refine w_iadd dX11_decode_79 ?_
          refine w_ei (2 * e1 + e2:Nat) (by omega) ?_
          refine v_istore (i := 7) (lv' := [(7, .int (iI (2 * e1 + e2:Nat))), (0, .ref 47), (1, .long (jL (u:Nat))), (3, .int (iI (w:Nat))), (4, .int (iI y9)), (5, .int (iI (fb:Nat))), (6, .int (iI (k:Nat))), (8, .int (iI i))]) dX11_decode_80 (by decide) rfl ?_
          refine w_iinc (lv' := [(4, .int (iI (y9 + (-1)))), (7, .int (iI (2 * e1 + e2:Nat))), (0, .ref 47), (1, .long (jL (u:Nat))), (3, .int (iI (w:Nat))), (5, .int (iI (fb:Nat))), (6, .int (iI (k:Nat))), (8, .int (iI i))]) dX11_decode_82 rfl (by decide) rfl ?_
          refine w_iinc (lv' := [(8, .int (iI (i + 1))), (4, .int (iI (y9 + (-1)))), (7, .int (iI (2 * e1 + e2:Nat))), (0, .ref 47), (1, .long (jL (u:Nat))), (3, .int (iI (w:Nat))), (5, .int (iI (fb:Nat))), (6, .int (iI (k:Nat)))]) dX11_decode_85 rfl (by decide) rfl ?_
          refine v_goto 53 dX11_decode_88 (by decide) ?_
          refine w_sub (lv2 := [(0, .ref 47), (1, .long (jL (u:Nat))), (3, .int (iI (w:Nat))), (4, .int (iI (y9 + (-1)))), (5, .int (iI (fb:Nat))), (6, .int (iI (k:Nat))), (7, .int (iI (2 * e1 + e2:Nat))), (8, .int (iI (i + 1)))]) [3, 4, 5, 1, 6, 7, 2, 0] rfl ?_
          exact last _ _ (by omega) (by omega)
    refine w_iinc (lv' := [(4, .int (iI (y + (-1)))), (0, .ref 47), (1, .long (jL (u:Nat))), (3, .int (iI (w:Nat))), (5, .int (iI (fb:Nat))), (6, .int (iI (k:Nat)))]) dX11_decode_44 rfl (by decide) rfl ?_
    refine v_iconst (iI 0) dX11_decode_47 rfl ?_
    refine v_istore (i := 7) (lv' := [(7, .int (iI 0)), (4, .int (iI (y + (-1)))), (0, .ref 47), (1, .long (jL (u:Nat))), (3, .int (iI (w:Nat))), (5, .int (iI (fb:Nat))), (6, .int (iI (k:Nat)))]) dX11_decode_48 (by decide) rfl ?_
    refine v_iconst (iI 0) dX11_decode_50 rfl ?_
    refine v_istore (i := 8) (lv' := [(8, .int (iI 0)), (7, .int (iI 0)), (4, .int (iI (y + (-1)))), (0, .ref 47), (1, .long (jL (u:Nat))), (3, .int (iI (w:Nat))), (5, .int (iI (fb:Nat))), (6, .int (iI (k:Nat)))]) dX11_decode_51 (by decide) rfl ?_
    refine v_iload dX11_decode_53 rfl ?_
    refine v_iconst (iI 2) dX11_decode_55 rfl ?_
    refine w_icmp_ge 91 dX11_decode_56 (by decide) (by decide) (by decide) (fun c1 => ?_) (fun c1 => ?_)
    · exact absurd c1 (by decide)
    · skip
      refine v_iconst (iI 2) dX11_decode_59 rfl ?_
      refine v_iload dX11_decode_60 rfl ?_
      refine w_imul dX11_decode_62 ?_
      refine w_ei 0 rfl ?_
      refine v_iload dX11_decode_63 rfl ?_
      refine w_if_lt 78 dX11_decode_65 (by decide) (by omega) (fun c2 => ?_) (fun c2 => ?_)
      · skip
        refine v_iconst (iI 0) dX11_decode_78 rfl ?_
        refine w_iadd dX11_decode_79 ?_
        refine w_ei 0 rfl ?_
        refine w_ei (e1:Nat) (by rw [← ee1, if_neg (by omega)]; rfl) ?_
        refine v_istore (i := 7) (lv' := [(7, .int (iI (e1:Nat))), (8, .int (iI 0)), (4, .int (iI (y + (-1)))), (0, .ref 47), (1, .long (jL (u:Nat))), (3, .int (iI (w:Nat))), (5, .int (iI (fb:Nat))), (6, .int (iI (k:Nat)))]) dX11_decode_80 (by decide) rfl ?_
        refine w_iinc (lv' := [(4, .int (iI ((y + (-1)) + (-1)))), (7, .int (iI (e1:Nat))), (8, .int (iI 0)), (0, .ref 47), (1, .long (jL (u:Nat))), (3, .int (iI (w:Nat))), (5, .int (iI (fb:Nat))), (6, .int (iI (k:Nat)))]) dX11_decode_82 rfl (by decide) rfl ?_
        refine w_iinc (lv' := [(8, .int (iI (0 + 1))), (4, .int (iI ((y + (-1)) + (-1)))), (7, .int (iI (e1:Nat))), (0, .ref 47), (1, .long (jL (u:Nat))), (3, .int (iI (w:Nat))), (5, .int (iI (fb:Nat))), (6, .int (iI (k:Nat)))]) dX11_decode_85 rfl (by decide) rfl ?_
        refine v_goto 53 dX11_decode_88 (by decide) ?_
        refine w_sub (lv2 := [(0, .ref 47), (1, .long (jL (u:Nat))), (3, .int (iI (w:Nat))), (4, .int (iI ((y + (-1)) + (-1)))), (5, .int (iI (fb:Nat))), (6, .int (iI (k:Nat))), (7, .int (iI (e1:Nat))), (8, .int (iI (0 + 1)))]) [3, 4, 5, 1, 6, 7, 2, 0] rfl ?_
        exact second _ _ (by omega) rfl
      · skip
        refine v_lload_n dX11_decode_68 rfl ?_
        refine v_iload dX11_decode_69 rfl ?_
        refine w_lshr dX11_decode_71 (b - 1) (2 ^ (b - 1)) rfl (by omega) (by omega) (by omega) ?_
        refine v_lconst (jL 1) dX11_decode_72 rfl ?_
        refine w_landm dX11_decode_73 1 2 rfl (by decide) rfl ?_
        refine w_el (e1:Nat) (by rw [ipw, ← Int.natCast_ediv, ← ee1, if_pos (by omega), ← bit_low hD (by omega), Int.natCast_emod]; rfl) ?_
        refine w_l2i dX11_decode_74 ?_
        refine v_goto 79 dX11_decode_75 (by decide) ?_
        refine w_iadd dX11_decode_79 ?_
        refine w_ei (e1:Nat) (by omega) ?_
        refine v_istore (i := 7) (lv' := [(7, .int (iI (e1:Nat))), (8, .int (iI 0)), (4, .int (iI (y + (-1)))), (0, .ref 47), (1, .long (jL (u:Nat))), (3, .int (iI (w:Nat))), (5, .int (iI (fb:Nat))), (6, .int (iI (k:Nat)))]) dX11_decode_80 (by decide) rfl ?_
        refine w_iinc (lv' := [(4, .int (iI ((y + (-1)) + (-1)))), (7, .int (iI (e1:Nat))), (8, .int (iI 0)), (0, .ref 47), (1, .long (jL (u:Nat))), (3, .int (iI (w:Nat))), (5, .int (iI (fb:Nat))), (6, .int (iI (k:Nat)))]) dX11_decode_82 rfl (by decide) rfl ?_
        refine w_iinc (lv' := [(8, .int (iI (0 + 1))), (4, .int (iI ((y + (-1)) + (-1)))), (7, .int (iI (e1:Nat))), (0, .ref 47), (1, .long (jL (u:Nat))), (3, .int (iI (w:Nat))), (5, .int (iI (fb:Nat))), (6, .int (iI (k:Nat)))]) dX11_decode_85 rfl (by decide) rfl ?_
        refine v_goto 53 dX11_decode_88 (by decide) ?_
        refine w_sub (lv2 := [(0, .ref 47), (1, .long (jL (u:Nat))), (3, .int (iI (w:Nat))), (4, .int (iI ((y + (-1)) + (-1)))), (5, .int (iI (fb:Nat))), (6, .int (iI (k:Nat))), (7, .int (iI (e1:Nat))), (8, .int (iI (0 + 1)))]) [3, 4, 5, 1, 6, 7, 2, 0] rfl ?_
        exact second _ _ (by omega) rfl
  have full : u + 1 = 2 ^ W → (zV X (fun r h' n' => r = none ∧ n' = n ∧ (∃ (M : Nat) (E : Int), h' 47 = oModel 1 (M:Nat) E sg e rt th tp wr at9 sz dg pw tn fm ∧ md u w M E ∧ 0 < M ∧ M < 4294967296 ∧ -300 ≤ E ∧ E ≤ 300 ∧ (w ≤ 32 → -120 ≤ E ∧ E ≤ 120)) ∧ zFr [47] h h') cX11_decode 9 RX11 none d 0 0 44 [(0, .ref 47), (1, .long (jL (u:Nat))), (3, .int (iI (w:Nat))), (4, .int (iI (-1))), (5, .int (iI (1:Nat))), (6, .int (iI (W:Nat)))] [] h n 0 0) := by
    intro eu
    refine w_iinc (lv' := [(4, .int (iI ((-1) + (-1)))), (0, .ref 47), (1, .long (jL (u:Nat))), (3, .int (iI (w:Nat))), (5, .int (iI (1:Nat))), (6, .int (iI (W:Nat)))]) dX11_decode_44 rfl (by decide) rfl ?_
    refine v_iconst (iI 0) dX11_decode_47 rfl ?_
    refine v_istore (i := 7) (lv' := [(7, .int (iI 0)), (4, .int (iI ((-1) + (-1)))), (0, .ref 47), (1, .long (jL (u:Nat))), (3, .int (iI (w:Nat))), (5, .int (iI (1:Nat))), (6, .int (iI (W:Nat)))]) dX11_decode_48 (by decide) rfl ?_
    refine v_iconst (iI 0) dX11_decode_50 rfl ?_
    refine v_istore (i := 8) (lv' := [(8, .int (iI 0)), (7, .int (iI 0)), (4, .int (iI ((-1) + (-1)))), (0, .ref 47), (1, .long (jL (u:Nat))), (3, .int (iI (w:Nat))), (5, .int (iI (1:Nat))), (6, .int (iI (W:Nat)))]) dX11_decode_51 (by decide) rfl ?_
    refine v_iload dX11_decode_53 rfl ?_
    refine v_iconst (iI 2) dX11_decode_55 rfl ?_
    refine w_icmp_ge 91 dX11_decode_56 (by decide) (by decide) (by decide) (fun c1 => ?_) (fun c1 => ?_)
    · exact absurd c1 (by decide)
    · skip
      refine v_iconst (iI 2) dX11_decode_59 rfl ?_
      refine v_iload dX11_decode_60 rfl ?_
      refine w_imul dX11_decode_62 ?_
      refine w_ei 0 rfl ?_
      refine v_iload dX11_decode_63 rfl ?_
      refine w_if_lt 78 dX11_decode_65 (by decide) (by decide) (fun c2 => ?_) (fun c2 => ?_)
      · skip
        refine v_iconst (iI 0) dX11_decode_78 rfl ?_
        refine w_iadd dX11_decode_79 ?_
        refine w_ei 0 rfl ?_
        refine v_istore (i := 7) (lv' := [(7, .int (iI 0)), (8, .int (iI 0)), (4, .int (iI ((-1) + (-1)))), (0, .ref 47), (1, .long (jL (u:Nat))), (3, .int (iI (w:Nat))), (5, .int (iI (1:Nat))), (6, .int (iI (W:Nat)))]) dX11_decode_80 (by decide) rfl ?_
        refine w_iinc (lv' := [(4, .int (iI (((-1) + (-1)) + (-1)))), (7, .int (iI 0)), (8, .int (iI 0)), (0, .ref 47), (1, .long (jL (u:Nat))), (3, .int (iI (w:Nat))), (5, .int (iI (1:Nat))), (6, .int (iI (W:Nat)))]) dX11_decode_82 rfl (by decide) rfl ?_
        refine w_iinc (lv' := [(8, .int (iI (0 + 1))), (4, .int (iI (((-1) + (-1)) + (-1)))), (7, .int (iI 0)), (0, .ref 47), (1, .long (jL (u:Nat))), (3, .int (iI (w:Nat))), (5, .int (iI (1:Nat))), (6, .int (iI (W:Nat)))]) dX11_decode_85 rfl (by decide) rfl ?_
        refine v_goto 53 dX11_decode_88 (by decide) ?_
        refine v_iload dX11_decode_53 rfl ?_
        refine v_iconst (iI 2) dX11_decode_55 rfl ?_
        refine w_icmp_ge 91 dX11_decode_56 (by decide) (by decide) (by decide) (fun c3 => ?_) (fun c3 => ?_)
        · exact absurd c3 (by decide)
        · skip
          refine v_iconst (iI 2) dX11_decode_59 rfl ?_
          refine v_iload dX11_decode_60 rfl ?_
          refine w_imul dX11_decode_62 ?_
          refine w_ei 0 rfl ?_
          refine v_iload dX11_decode_63 rfl ?_
          refine w_if_lt 78 dX11_decode_65 (by decide) (by decide) (fun c4 => ?_) (fun c4 => ?_)
          · skip
            refine v_iconst (iI 0) dX11_decode_78 rfl ?_
            refine w_iadd dX11_decode_79 ?_
            refine w_ei 0 rfl ?_
            refine v_istore (i := 7) (lv' := [(7, .int (iI 0)), (8, .int (iI (0 + 1))), (4, .int (iI (((-1) + (-1)) + (-1)))), (0, .ref 47), (1, .long (jL (u:Nat))), (3, .int (iI (w:Nat))), (5, .int (iI (1:Nat))), (6, .int (iI (W:Nat)))]) dX11_decode_80 (by decide) rfl ?_
            refine w_iinc (lv' := [(4, .int (iI ((((-1) + (-1)) + (-1)) + (-1)))), (7, .int (iI 0)), (8, .int (iI (0 + 1))), (0, .ref 47), (1, .long (jL (u:Nat))), (3, .int (iI (w:Nat))), (5, .int (iI (1:Nat))), (6, .int (iI (W:Nat)))]) dX11_decode_82 rfl (by decide) rfl ?_
            refine w_iinc (lv' := [(8, .int (iI ((0 + 1) + 1))), (4, .int (iI ((((-1) + (-1)) + (-1)) + (-1)))), (7, .int (iI 0)), (0, .ref 47), (1, .long (jL (u:Nat))), (3, .int (iI (w:Nat))), (5, .int (iI (1:Nat))), (6, .int (iI (W:Nat)))]) dX11_decode_85 rfl (by decide) rfl ?_
            refine v_goto 53 dX11_decode_88 (by decide) ?_
            refine v_iload dX11_decode_53 rfl ?_
            refine v_iconst (iI 2) dX11_decode_55 rfl ?_
            refine w_icmp_ge 91 dX11_decode_56 (by decide) (by decide) (by decide) (fun c5 => ?_) (fun c5 => ?_)
            · skip
              refine v_iconst (iI 0) dX11_decode_91 rfl ?_
              refine v_iload dX11_decode_92 rfl ?_
              refine v_iconst (iI 1) dX11_decode_94 rfl ?_
              refine w_iadd dX11_decode_95 ?_
              refine v_cS (av := [.int (iI 0), .int (iI (((((-1) + (-1)) + (-1)) + (-1)) + 1))]) (st := []) zyJ9_max_7cf53 lX11_1 (p_max (d := 0) (by decide) (by decide)) dX11_decode_96 rfl rfl (Nat.le_of_ble_eq_true rfl) (by omega) (Nat.le_of_ble_eq_true rfl) (Nat.le_of_ble_eq_true rfl) (Or.inl (fun _ _ _ q => ZN q)) (fun r9 K1 n9 q9 => ?_)
              obtain ⟨rfl, q9n, q9h⟩ := q9
              have q9n := q9n.symm
              subst q9n
              have q9h := q9h.symm
              subst q9h
              refine w_ei ((0:Nat):Int) (by decide) ?_
              refine v_istore (i := 8) (lv' := [(8, .int (iI ((0:Nat):Int))), (4, .int (iI ((((-1) + (-1)) + (-1)) + (-1)))), (7, .int (iI 0)), (0, .ref 47), (1, .long (jL (u:Nat))), (3, .int (iI (w:Nat))), (5, .int (iI (1:Nat))), (6, .int (iI (W:Nat)))]) dX11_decode_99 (by decide) rfl ?_
              refine w_sub (lv2 := [(0, .ref 47), (1, .long (jL (u:Nat))), (5, .int (iI (1:Nat))), (6, .int (iI (W:Nat))), (7, .int (iI 0)), (8, .int (iI ((0:Nat):Int)))]) [3, 4, 6, 7, 2, 0] rfl ?_
              exact fin 0 0 W 1 1 _ _ (by decide) (by decide) (by omega) (by decide) (by rw [Nat.pow_zero, Nat.mod_one]) rfl rfl (md_of (by rw [ew]; exact dec_mkF (by omega) (by omega) eu) (j := 30) rfl (by rw [if_pos rfl]; omega)) (fun z => by rw [if_pos rfl]; omega)
            · exact absurd (by decide) c5
          · exact absurd (by decide) c4
      · exact absurd (by decide) c2
  obtain ⟨fb, efb⟩ : ∃ fb, u / 2 ^ (W - 1) % 2 = fb := ⟨_, rfl⟩
  have hfb : fb < 2 := by omega
  have hW2 : 2 ^ W = 2 * 2 ^ (W - 1) := by rw [Nat.mul_comm, ← Nat.pow_succ]; congr 1; omega
  have loop : ∀ (b k : Nat) (y : Int), k + b = W → y = (b : Int) - 1 → (fb = 0 → u < 2 ^ b) → (fb = 1 → 2 ^ W ≤ u + 2 ^ b) → (1 ≤ k ∨ b = W) → (zV X (fun r h' n' => r = none ∧ n' = n ∧ (∃ (M : Nat) (E : Int), h' 47 = oModel 1 (M:Nat) E sg e rt th tp wr at9 sz dg pw tn fm ∧ md u w M E ∧ 0 < M ∧ M < 4294967296 ∧ -300 ≤ E ∧ E ≤ 300 ∧ (w ≤ 32 → -120 ≤ E ∧ E ≤ 120)) ∧ zFr [47] h h') cX11_decode 9 RX11 none d 0 0 17 [(0, .ref 47), (1, .long (jL (u:Nat))), (3, .int (iI (w:Nat))), (4, .int (iI y)), (5, .int (iI (fb:Nat))), (6, .int (iI (k:Nat)))] [] h n 0 0) := by
    intro b
    induction b with
    | zero =>
      intro k y hk ey h0 h1 hk1
      have hf1 : fb = 1 := by
        rcases Nat.lt_or_ge fb 1 with z | z
        · have := h0 (by omega); rw [Nat.pow_zero] at this; omega
        · omega
      have eu : u + 1 = 2 ^ W := by have := h1 hf1; rw [Nat.pow_zero] at this; omega
      subst hf1
      rw [show y = -1 from by omega, show k = W from by omega]
      refine v_iload dX11_decode_17 rfl ?_
      refine w_if_lt 44 dX11_decode_19 (by decide) (by decide) (fun c1 => ?_) (fun c1 => ?_)
      · exact full eu
      · exact absurd (by decide) c1
    | succ b ih =>
      intro k y hk ey h0 h1 hk1
      have hp2 : 2 ^ (b + 1) = 2 * 2 ^ b := by rw [Nat.pow_succ, Nat.mul_comm]
      have hpb := p_pos b
      have e0 : fb = 0 → u / 2 ^ b % 2 = u / 2 ^ b ∧ u / 2 ^ b < 2 := fun z => by
        have : u / 2 ^ b < 2 := Nat.div_lt_of_lt_mul (by have := h0 z; omega)
        exact ⟨Nat.mod_eq_of_lt this, this⟩
      refine v_iload dX11_decode_17 rfl ?_
      refine w_if_lt 44 dX11_decode_19 (by decide) (by omega) (fun c1 => ?_) (fun c1 => ?_)
      · exact absurd c1 (by omega)
      · skip
        refine v_lload_n dX11_decode_22 rfl ?_
        refine v_iload dX11_decode_23 rfl ?_
        refine w_lshr dX11_decode_25 b (2 ^ b) rfl (by omega) (by omega) (by omega) ?_
        refine v_lconst (jL 1) dX11_decode_26 rfl ?_
        refine w_landm dX11_decode_27 1 2 rfl (by decide) rfl ?_
        refine w_el (u / 2 ^ b % 2:Nat) (by rw [ipw, ← Int.natCast_ediv, Int.natCast_emod]; rfl) ?_
        have h2 := Nat.mod_lt (u / 2 ^ b) (show 0 < 2 by decide)
        have hdm := Nat.div_add_mod u (2 ^ b)
        have hml := Nat.mod_lt u hpb
        refine v_iload dX11_decode_28 rfl ?_
        refine w_i2l dX11_decode_30 (by omega) ?_
        refine w_lcmp_ne 44 dX11_decode_31 dX11_decode_32 (by decide) (by omega) (by omega) (fun c2 => ?_) (fun c2 => ?_)
        · have hb9 : u / 2 ^ b % 2 ≠ fb := by omega
          have hbW : b + 1 ≠ W ∨ True := Or.inr trivial
          have hk2 : 1 ≤ k := by
            rcases hk1 with z | z
            · exact z
            · exfalso; apply hb9; rw [← efb, show W - 1 = b from by omega]
          refine tl k b (u % 2 ^ b) fb y (by omega) (by omega) (by omega) rfl ?_
          rw [ew]
          rcases Nat.lt_or_ge fb 1 with z | z
          · have z0 : fb = 0 := by omega
            have := e0 z0
            have e9 : u / 2 ^ b = 1 := by omega
            rw [if_neg (by omega)]
            exact dec_mk0 (by omega) hk2 (by omega) hml (by rw [e9, Nat.mul_one] at hdm; omega)
          · have z1 : fb = 1 := by omega
            rw [if_pos z1]
            refine dec_mk1 (by omega) hk2 (by omega) hml ?_
            have h3 := h1 z1
            rw [show W - k = b + 1 from by omega]
            have e8 : 2 ^ W = 2 ^ b * 2 ^ (W - b) := by rw [← Nat.pow_add]; congr 1; omega
            have e7 : 2 ^ (W - b) = 2 * 2 ^ (W - b - 1) := by rw [Nat.mul_comm, ← Nat.pow_succ]; congr 1; omega
            obtain ⟨q, eq⟩ : ∃ q, u / 2 ^ b = q := ⟨_, rfl⟩
            rw [eq] at hdm hb9
            obtain ⟨Q, eQ⟩ : ∃ Q, 2 ^ (W - b - 1) = Q := ⟨_, rfl⟩
            rw [e7, eQ] at e8
            have h4 : q + 2 ≥ 2 * Q := by
              rcases Nat.lt_or_ge (q + 2) (2 * Q) with y1 | y1
              · have := Nat.mul_le_mul_left (2 ^ b) (show q + 3 ≤ 2 * Q from y1)
                rw [Nat.mul_add] at this; omega
              · exact y1
            have h5 : q < 2 * Q := by
              rcases Nat.lt_or_ge q (2 * Q) with y1 | y1
              · exact y1
              · have := Nat.mul_le_mul_left (2 ^ b) y1; omega
            have h6 : q + 2 = 2 * Q := by omega
            have h7 := congrArg (2 ^ b * ·) h6
            simp only [Nat.mul_add] at h7
            omega
        · have hb9 : u / 2 ^ b % 2 = fb := by omega
          refine w_iinc (lv' := [(6, .int (iI ((k:Nat) + 1))), (0, .ref 47), (1, .long (jL (u:Nat))), (3, .int (iI (w:Nat))), (4, .int (iI y)), (5, .int (iI (fb:Nat)))]) dX11_decode_35 rfl (by decide) rfl ?_
          refine w_iinc (lv' := [(4, .int (iI (y + (-1)))), (6, .int (iI ((k:Nat) + 1))), (0, .ref 47), (1, .long (jL (u:Nat))), (3, .int (iI (w:Nat))), (5, .int (iI (fb:Nat)))]) dX11_decode_38 rfl (by decide) rfl ?_
          refine v_goto 17 dX11_decode_41 (by decide) ?_
          refine w_sub (lv2 := [(0, .ref 47), (1, .long (jL (u:Nat))), (3, .int (iI (w:Nat))), (4, .int (iI (y + (-1)))), (5, .int (iI (fb:Nat))), (6, .int (iI ((k:Nat) + 1)))]) [2, 3, 4, 0, 5, 1] rfl ?_
          refine ih (k + 1) _ (by omega) (by omega) (fun z => ?_) (fun z => ?_) (Or.inl (by omega))
          · have := e0 z
            have e9 : u / 2 ^ b = 0 := by omega
            rw [e9, Nat.mul_zero] at hdm; omega
          · have h3 := h1 z
            have e8 : 2 ^ W = 2 ^ b * 2 ^ (W - b) := by rw [← Nat.pow_add]; congr 1; omega
            have e7 : 2 ^ (W - b) = 2 * 2 ^ (W - b - 1) := by rw [Nat.mul_comm, ← Nat.pow_succ]; congr 1; omega
            obtain ⟨q, eq⟩ : ∃ q, u / 2 ^ b = q := ⟨_, rfl⟩
            rw [eq] at hdm hb9
            obtain ⟨Q, eQ⟩ : ∃ Q, 2 ^ (W - b - 1) = Q := ⟨_, rfl⟩
            rw [e7, eQ] at e8
            have h4 : q + 2 ≥ 2 * Q := by
              rcases Nat.lt_or_ge (q + 2) (2 * Q) with y1 | y1
              · have := Nat.mul_le_mul_left (2 ^ b) (show q + 3 ≤ 2 * Q from y1)
                rw [Nat.mul_add] at this; omega
              · exact y1
            have h6 : q + 1 ≥ 2 * Q := by omega
            have h7 := Nat.mul_le_mul_left (2 ^ b) h6
            rw [Nat.mul_add] at h7
            omega
  refine v_iload_n dX11_decode_0 rfl ?_
  refine v_iconst (iI 2) dX11_decode_1 rfl ?_
  refine w_isub dX11_decode_2 ?_
  refine v_istore (i := 4) (lv' := [(4, .int (iI ((w:Nat) - 2))), (0, .ref 47), (1, .long (jL (u:Nat))), (3, .int (iI (w:Nat)))]) dX11_decode_3 (by decide) rfl ?_
  refine v_lload_n dX11_decode_5 rfl ?_
  refine v_iload dX11_decode_6 rfl ?_
  refine w_lshr dX11_decode_8 (W - 1) (2 ^ (W - 1)) rfl (by omega) (by omega) (by omega) ?_
  refine v_lconst (jL 1) dX11_decode_9 rfl ?_
  refine w_landm dX11_decode_10 1 2 rfl (by decide) rfl ?_
  refine w_el (fb:Nat) (by rw [ipw, ← Int.natCast_ediv, ← efb, Int.natCast_emod]; rfl) ?_
  refine w_l2i dX11_decode_11 ?_
  refine v_istore (i := 5) (lv' := [(5, .int (iI (fb:Nat))), (4, .int (iI ((w:Nat) - 2))), (0, .ref 47), (1, .long (jL (u:Nat))), (3, .int (iI (w:Nat)))]) dX11_decode_12 (by decide) rfl ?_
  refine v_iconst (iI 0) dX11_decode_14 rfl ?_
  refine v_istore (i := 6) (lv' := [(6, .int (iI 0)), (5, .int (iI (fb:Nat))), (4, .int (iI ((w:Nat) - 2))), (0, .ref 47), (1, .long (jL (u:Nat))), (3, .int (iI (w:Nat)))]) dX11_decode_15 (by decide) rfl ?_
  refine w_sub (lv2 := [(0, .ref 47), (1, .long (jL (u:Nat))), (3, .int (iI (w:Nat))), (4, .int (iI ((w:Nat) - 2))), (5, .int (iI (fb:Nat))), (6, .int (iI 0))]) [3, 4, 5, 2, 1, 0] rfl ?_
  refine loop W 0 _ (by omega) (by omega) (fun z => hu) (fun z => by omega) (Or.inr rfl)
