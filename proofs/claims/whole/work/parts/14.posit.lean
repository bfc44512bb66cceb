/-! Posits of the class: a pattern taken apart -/
abbrev oPosit (na mi : Bool) (sg ex : Int) : zC := .inr (2, [.int (iI (bz na)), .int (iI (bz mi)), .long (jL sg), .int (iI ex)])
theorem ip (k : Nat) : (1 : Int) * 2 ^ k = ((2 ^ k : Nat) : Int) := by rw [Int.one_mul, Int.natCast_pow]; rfl
theorem ipw (k : Nat) : (2 : Int) ^ k = ((2 ^ k : Nat) : Int) := by rw [Int.natCast_pow]; rfl
/-- the bits of a number of regime r: its exponent and fraction are the tail's 2 and 30 bits; 72 bits in all -/
def enc (r : Int) (tail : Nat) : Nat := if 0 ≤ r then 2 ^ 72 - 2 ^ (71 - r.toNat) + tail * 2 ^ (38 - r.toNat) else 2 ^ (71 - (-r).toNat) + tail * 2 ^ (39 - (-r).toNat)
/-- u of width n is of regime r, with this tail -/
def dec (u n : Nat) (r : Int) (tail : Nat) : Prop := -39 ≤ r ∧ r ≤ 38 ∧ tail < 4294967296 ∧ u * 2 ^ (73 - n) = enc r tail
theorem dec_hi {u n : Nat} (hn : 3 ≤ n) (hn2 : n ≤ 33) (hu : u < 2 ^ (n - 1)) (hb : 9223372036854775808 ≤ u * 2 ^ (65 - n)) :
    ∃ k tail : Nat, 64 - nb (18446744073709551615 - u * 2 ^ (65 - n)) = k ∧ 1 ≤ k ∧ k ≤ 32 ∧ dec u n (k - 1) tail ∧ u * 2 ^ (65 - n) * 2 ^ (k + 1) % 18446744073709551616 = tail * 4294967296 ∧ tail % 4 = 0 := by
  have e1 : u * 2 ^ (65 - n) = 4294967296 * (u * 2 ^ (33 - n)) := by
    rw [show 65 - n = 32 + (33 - n) from by omega, Nat.pow_add, ← Nat.mul_assoc, Nat.mul_comm u, Nat.mul_assoc]
  have e2 : u * 2 ^ (73 - n) = u * 2 ^ (65 - n) * 256 := by
    rw [show 73 - n = (65 - n) + 8 from by omega, Nat.pow_add, ← Nat.mul_assoc]
  have hc : u * 2 ^ (33 - n) < 4294967296 := by
    have := Nat.mul_lt_mul_of_pos_right hu (p_pos (33 - n))
    rw [← Nat.pow_add, show n - 1 + (33 - n) = 32 from by omega] at this
    exact this
  obtain ⟨c, ec⟩ : ∃ c, u * 2 ^ (33 - n) = c := ⟨_, rfl⟩
  rw [ec] at hc e1
  unfold dec
  rw [e2, e1]
  rw [e1] at hb
  have h1 : 18446744073709551615 - 4294967296 * c ≠ 0 := by omega
  have h2 := nb_lo h1
  have h3 := nb_hi (18446744073709551615 - 4294967296 * c)
  have h4 := nb_pos h1
  obtain ⟨m, em⟩ : ∃ m, nb (18446744073709551615 - 4294967296 * c) = m + 1 := ⟨_, (Nat.sub_add_cancel h4).symm⟩
  have h5 : nb (18446744073709551615 - 4294967296 * c) ≤ 63 := nb_le (by omega)
  have h6 : 31 + 1 ≤ nb (18446744073709551615 - 4294967296 * c) := nb_ge (by omega)
  rw [em] at h2 h3 h5 h6 ⊢
  rw [Nat.add_sub_cancel] at h2
  have e3 : 2 ^ (m + 1) = 4294967296 * 2 ^ (m - 31) := by rw [show m + 1 = 32 + (m - 31) from by omega, Nat.pow_add]
  have e4 : 2 ^ (m + 1) = 2 * 2 ^ m := by rw [Nat.pow_succ, Nat.mul_comm]
  obtain ⟨D, eD⟩ : ∃ D, 2 ^ (m + 1) - (18446744073709551616 - 4294967296 * c) = 4294967296 * D := ⟨2 ^ (m - 31) - (4294967296 - c), by rw [e3]; omega⟩
  have e5 : 4294967296 * c = 18446744073709551616 - 2 ^ (m + 1) + 4294967296 * D := by omega
  have h7 : 4294967296 * D < 2 ^ m := by omega
  have e6 : 2 ^ m * 2 ^ (64 - m) = 18446744073709551616 := by rw [← Nat.pow_add, show m + (64 - m) = 64 from by omega]
  have h8 : 4294967296 * D * 2 ^ (64 - m) < 18446744073709551616 := by rw [← e6]; exact Nat.mul_lt_mul_of_pos_right h7 (p_pos _)
  have e7 : 2 ^ (64 - m) = 4 * 2 ^ (62 - m) := by rw [show 64 - m = 2 + (62 - m) from by omega, Nat.pow_add]
  refine ⟨63 - m, D * 2 ^ (64 - m), by omega, by omega, by omega, ⟨by omega, by omega, ?_, ?_⟩, ?_, ?_⟩
  · rw [Nat.mul_assoc] at h8; omega
  · unfold enc
    rw [if_pos (by omega), show (((63 - m : Nat) : Int) - 1).toNat = 62 - m from by omega, show 71 - (62 - m) = m + 1 + 8 from by omega, Nat.pow_add]
    have e8 : 2 ^ (64 - m) * 2 ^ (38 - (62 - m)) = 1099511627776 := by rw [← Nat.pow_add, show 64 - m + (38 - (62 - m)) = 40 from by omega]
    rw [Nat.mul_assoc D, e8]
    have : 2 ^ (m + 1) ≤ 2 ^ 63 := Nat.pow_le_pow_right (by decide) (by omega)
    omega
  · rw [show 63 - m + 1 = 64 - m from by omega]
    have e9 : 4294967296 * c * 2 ^ (64 - m) + 2 * 18446744073709551616 = 18446744073709551616 * 2 ^ (64 - m) + 4294967296 * D * 2 ^ (64 - m) := by
      have h9 : 4294967296 * c + 2 ^ (m + 1) = 18446744073709551616 + 4294967296 * D := by omega
      have := congrArg (· * 2 ^ (64 - m)) h9
      simp only [Nat.add_mul] at this
      rw [e4, Nat.mul_assoc 2, e6] at this
      exact this
    rw [Nat.mul_right_comm D, Nat.mul_comm D]
    omega
  · rw [e7, Nat.mul_left_comm]; omega
theorem dec_lo {u n : Nat} (hn : 3 ≤ n) (hn2 : n ≤ 33) (hu : 0 < u) (hb : u * 2 ^ (65 - n) < 9223372036854775808) :
    ∃ k tail : Nat, 64 - nb (u * 2 ^ (65 - n)) = k ∧ 1 ≤ k ∧ k ≤ 31 ∧ dec u n (-(k : Int)) tail ∧ u * 2 ^ (65 - n) * 2 ^ (k + 1) % 18446744073709551616 = tail * 4294967296 ∧ tail % 4 = 0 := by
  have e1 : u * 2 ^ (65 - n) = 4294967296 * (u * 2 ^ (33 - n)) := by
    rw [show 65 - n = 32 + (33 - n) from by omega, Nat.pow_add, ← Nat.mul_assoc, Nat.mul_comm u, Nat.mul_assoc]
  have e2 : u * 2 ^ (73 - n) = u * 2 ^ (65 - n) * 256 := by
    rw [show 73 - n = (65 - n) + 8 from by omega, Nat.pow_add, ← Nat.mul_assoc]
  have hc : 0 < u * 2 ^ (33 - n) := Nat.mul_pos hu (p_pos _)
  obtain ⟨c, ec⟩ : ∃ c, u * 2 ^ (33 - n) = c := ⟨_, rfl⟩
  rw [ec] at hc e1
  unfold dec
  rw [e2, e1]
  rw [e1] at hb
  have h1 : 4294967296 * c ≠ 0 := by omega
  have h2 := nb_lo h1
  have h3 := nb_hi (4294967296 * c)
  have h4 := nb_pos h1
  obtain ⟨m, em⟩ : ∃ m, nb (4294967296 * c) = m + 1 := ⟨_, (Nat.sub_add_cancel h4).symm⟩
  have h5 : nb (4294967296 * c) ≤ 63 := nb_le (by omega)
  have h6 : 32 + 1 ≤ nb (4294967296 * c) := nb_ge (by omega)
  rw [em] at h2 h3 h5 h6 ⊢
  rw [Nat.add_sub_cancel] at h2
  have e3 : 2 ^ m = 4294967296 * 2 ^ (m - 32) := by rw [show m = 32 + (m - 32) from by omega, Nat.pow_add, Nat.add_sub_cancel_left]
  have e4 : 2 ^ (m + 1) = 2 * 2 ^ m := by rw [Nat.pow_succ, Nat.mul_comm]
  obtain ⟨D, eD⟩ : ∃ D, 4294967296 * c = 2 ^ m + 4294967296 * D := ⟨c - 2 ^ (m - 32), by omega⟩
  have h7 : 4294967296 * D < 2 ^ m := by omega
  have e6 : 2 ^ m * 2 ^ (64 - m) = 18446744073709551616 := by rw [← Nat.pow_add, show m + (64 - m) = 64 from by omega]
  have h8 : 4294967296 * D * 2 ^ (64 - m) < 18446744073709551616 := by rw [← e6]; exact Nat.mul_lt_mul_of_pos_right h7 (p_pos _)
  have e7 : 2 ^ (64 - m) = 4 * 2 ^ (62 - m) := by rw [show 64 - m = 2 + (62 - m) from by omega, Nat.pow_add]
  refine ⟨63 - m, D * 2 ^ (64 - m), by omega, by omega, by omega, ⟨by omega, by omega, ?_, ?_⟩, ?_, ?_⟩
  · rw [Nat.mul_assoc] at h8; omega
  · unfold enc
    rw [if_neg (by omega), show (- -((63 - m : Nat) : Int)).toNat = 63 - m from by omega, show 71 - (63 - m) = m + 8 from by omega, Nat.pow_add]
    have e8 : 2 ^ (64 - m) * 2 ^ (39 - (63 - m)) = 1099511627776 := by rw [← Nat.pow_add, show 64 - m + (39 - (63 - m)) = 40 from by omega]
    rw [Nat.mul_assoc D, e8]
    omega
  · rw [show 63 - m + 1 = 64 - m from by omega, eD, Nat.add_mul, e6, Nat.mul_right_comm D, Nat.mul_comm D]
    omega
  · rw [e7, Nat.mul_left_comm]; omega
/-- significand and exponent of a size u of width n -/
def ld (u n sg : Nat) (ex : Int) : Prop := ∃ (r : Int) (tail j : Nat), dec u n r tail ∧ sg * 2 ^ j = 1073741824 + tail % 1073741824 ∧ sg % 2 = 1 ∧ ex = 4 * r + ((tail / 1073741824 : Nat) : Int) - 30 + j
/-- the size of a pattern -/
def pmag (p n : Nat) : Nat := if 2 ^ (n - 1) < p then 2 ^ n - p else p
def pd (p n sg : Nat) (ex : Int) : Prop := if p = 0 ∨ p = 2 ^ (n - 1) then sg = 0 ∧ ex = 0 else ld (pmag p n) n sg ex
theorem odd_part (x : Nat) (h : 0 < x) : ∃ t c, x = 2 ^ t * (2 * c + 1) := by
  induction x using Nat.strongRecOn with
  | ind x ih =>
    rcases Nat.mod_two_eq_zero_or_one x with q | q
    · obtain ⟨t, c, e⟩ := ih (x / 2) (by omega) (by omega)
      exact ⟨t + 1, c, by rw [Nat.pow_succ, Nat.mul_comm (2 ^ t) 2, Nat.mul_assoc, ← e]; omega⟩
    · exact ⟨0, x / 2, by omega⟩
theorem ld_lt {u n sg : Nat} {ex : Int} (h : ld u n sg ex) : 0 < sg ∧ sg < 2147483648 ∧ -200 ≤ ex ∧ ex ≤ 200 := by
  obtain ⟨r, tail, j, ⟨h1, h2, h3, -⟩, e, h4, e2⟩ := h
  have h5 : sg * 1 ≤ sg * 2 ^ j := Nat.mul_le_mul_left _ (p_pos j)
  have h6 : j ≤ 31 := by
    rcases Nat.lt_or_ge 31 j with q | q
    · have : 2 ^ 32 ≤ 2 ^ j := Nat.pow_le_pow_right (by decide) q
      have : 1 * 2 ^ j ≤ sg * 2 ^ j := Nat.mul_le_mul_right _ (by omega)
      omega
    · exact q
  omega
theorem shl_mod1 {B P T : Nat} (h : B * P % 18446744073709551616 = T) : ((B : Int) - 18446744073709551616) * (P : Int) % 18446744073709551616 = (T : Int) % 18446744073709551616 := by
  rw [Int.sub_mul, ← Int.natCast_mul]; omega
theorem shl_mod0 {B P T : Nat} (h : B * P % 18446744073709551616 = T) : (B : Int) * (P : Int) % 18446744073709551616 = (T : Int) % 18446744073709551616 := by
  rw [← Int.natCast_mul]; omega
set_option maxHeartbeats 4000000 in
set_option maxRecDepth 100000 in
theorem p_load {d n a p w : Nat} {na mi : Bool} {s0 x0 : Int} {h : zH} (h_a : h a = oPosit na mi s0 x0) (hd : 2 ≤ d) (hw : 3 ≤ w ∧ w ≤ 33) (hp : p < 2 ^ w) :
    zM yX2_load cX2_load 16 none d 0 0 [.ref a, .long (jL (p:Nat)), .int (iI (w:Nat))] h n (fun r h' n' => r = none ∧ n' = n ∧ (∃ (sg : Nat) (ex : Int), h' a = oPosit (decide (p = 2 ^ (w - 1))) (decide (2 ^ (w - 1) < p)) (sg : Nat) ex ∧ pd p w sg ex) ∧ zFr [a] h h') := by
  refine zM_of zyX2_load rfl (Nat.le_of_ble_eq_true rfl) (fun X hX => ?_)
  have fr : zFr [a] h h := zFr.rf
  obtain ⟨q, eq⟩ : ∃ q, 2 ^ (w - 1) = q := ⟨_, rfl⟩
  have e2 : 2 ^ w = 2 * q := by rw [← eq, Nat.mul_comm, ← Nat.pow_succ]; congr 1; omega
  have hq : 4 ≤ q := by rw [← eq]; exact Nat.pow_le_pow_right (show 0 < 2 by decide) (show 2 ≤ w - 1 by omega)
  have hq2 : q ≤ 4294967296 := by rw [← eq]; exact Nat.pow_le_pow_right (show 0 < 2 by decide) (show w - 1 ≤ 32 by omega)
  rw [e2] at hp
  refine v_lconst (jL 1) dX2_load_0 rfl ?_
  refine v_iload_n dX2_load_1 rfl ?_
  refine v_iconst (iI 1) dX2_load_2 rfl ?_
  refine w_isub dX2_load_3 ?_
  refine w_lshl dX2_load_4 (w - 1) (2 ^ (w - 1)) rfl (by omega) (by omega) ?_
  refine w_el (q:Nat) (by rw [← eq]; exact ip (w - 1)) ?_
  have tl : ∀ (mb : Bool) (u : Nat) (r y : Int) (k tail : Nat) (H : zH), mb = decide (q < p) → p ≠ q → p ≠ 0 → pmag p w = u → dec u w r tail → k ≤ 40 → y * 2 ^ (k + 1) % 18446744073709551616 = ((tail * 4294967296 : Nat) : Int) % 18446744073709551616 → tail % 4 = 0 → H a = oPosit false mb 0 0 → zFr [a] h H → (zV X (fun r h' n' => r = none ∧ n' = n ∧ (∃ (sg : Nat) (ex : Int), h' a = oPosit (decide (p = 2 ^ (w - 1))) (decide (2 ^ (w - 1) < p)) (sg : Nat) ex ∧ pd p w sg ex) ∧ zFr [a] h h') cX2_load 16 RX2 none d 0 0 126 [(0, .ref a), (6, .long (jL y)), (8, .int (iI (k:Nat)))] [.int (iI r)] H n 0 0) := by
    intro mb u r y k tail H emb hpq hp0 hu hdec hk hy h4 h_a fr
    obtain ⟨hr1, hr2, ht, -⟩ := id hdec
    refine v_istore (i := 9) (lv' := [(9, .int (iI r)), (0, .ref a), (6, .long (jL y)), (8, .int (iI (k:Nat)))]) dX2_load_126 (by decide) rfl ?_
    refine v_lload dX2_load_128 rfl ?_
    refine v_iload dX2_load_130 rfl ?_
    refine v_iconst (iI 1) dX2_load_132 rfl ?_
    refine w_iadd dX2_load_133 ?_
    refine w_lshl dX2_load_134 (k + 1) (2 ^ (k + 1)) rfl (by omega) (by omega) ?_
    refine w_topl (tail * 4294967296:Nat) hy ?_
    refine v_lstore (i := 10) (lv' := [(10, .long (jL (tail * 4294967296:Nat))), (9, .int (iI r)), (0, .ref a), (6, .long (jL y)), (8, .int (iI (k:Nat)))]) dX2_load_135 (by decide) rfl ?_
    refine v_lload dX2_load_137 rfl ?_
    refine v_bipush (iI 62) dX2_load_139 rfl ?_
    refine w_lushr dX2_load_141 62 4611686018427387904 rfl rfl (by decide) (by omega) ?_
    refine w_el (tail / 1073741824:Nat) (by omega) ?_
    refine w_l2i dX2_load_142 ?_
    refine v_istore (i := 12) (lv' := [(12, .int (iI (tail / 1073741824:Nat))), (10, .long (jL (tail * 4294967296:Nat))), (9, .int (iI r)), (0, .ref a), (6, .long (jL y)), (8, .int (iI (k:Nat)))]) dX2_load_143 (by decide) rfl ?_
    refine v_ldc2_w (v := jL 268435456) kX2_32 dX2_load_145 ?_
    refine v_lload dX2_load_148 rfl ?_
    refine v_iconst (iI 2) dX2_load_150 rfl ?_
    refine w_lshl dX2_load_151 2 4 rfl rfl (by decide) ?_
    refine w_topl ((tail % 1073741824) * 17179869184:Nat) (by omega) ?_
    refine v_bipush (iI 36) dX2_load_152 rfl ?_
    refine w_lushr dX2_load_154 36 68719476736 rfl rfl (by decide) (by omega) ?_
    refine w_el ((tail % 1073741824) / 4:Nat) (by omega) ?_
    refine w_lor dX2_load_155 28 268435456 rfl (by decide) (by omega) (by omega) ?_
    obtain ⟨fu, efu⟩ : ∃ fu, 268435456 + (tail % 1073741824) / 4 = fu := ⟨_, rfl⟩
    refine w_el (fu:Nat) (by omega) ?_
    obtain ⟨t, c, ec⟩ := odd_part fu (by omega)
    have htp := p_pos t
    have htl : t < 32 := by
      rcases Nat.lt_or_ge t 32 with z | z
      · exact z
      · have : 2 ^ 32 ≤ 2 ^ t := Nat.pow_le_pow_right (by decide) z
        have : 2 ^ t * 1 ≤ 2 ^ t * (2 * c + 1) := Nat.mul_le_mul_left _ (by omega)
        omega
    refine v_lstore (i := 13) (lv' := [(13, .long (jL (fu:Nat))), (12, .int (iI (tail / 1073741824:Nat))), (10, .long (jL (tail * 4294967296:Nat))), (9, .int (iI r)), (0, .ref a), (6, .long (jL y)), (8, .int (iI (k:Nat)))]) dX2_load_156 (by decide) rfl ?_
    refine v_lload dX2_load_158 rfl ?_
    refine v_cS (av := [.long (jL (fu:Nat))]) (st := []) zyJ13_numberOfTrailingZeros_95d88 lX2_34 (p_ntzL (d := 1) (by decide) (by omega) (by omega) ec) dX2_load_160 rfl rfl (Nat.le_of_ble_eq_true rfl) (by omega) (Nat.le_of_ble_eq_true rfl) (Nat.le_of_ble_eq_true rfl) (Or.inl (fun _ _ _ q => ZN q)) (fun r9 K1 n9 q9 => ?_)
    obtain ⟨rfl, q9n, q9h⟩ := q9
    have q9n := q9n.symm
    subst q9n
    have q9h := q9h.symm
    subst q9h
    refine v_istore (i := 15) (lv' := [(15, .int (iI (t:Nat))), (13, .long (jL (fu:Nat))), (12, .int (iI (tail / 1073741824:Nat))), (10, .long (jL (tail * 4294967296:Nat))), (9, .int (iI r)), (0, .ref a), (6, .long (jL y)), (8, .int (iI (k:Nat)))]) dX2_load_163 (by decide) rfl ?_
    refine v_aload_n dX2_load_165 rfl ?_
    refine v_lload dX2_load_166 rfl ?_
    refine v_iload dX2_load_168 rfl ?_
    refine w_lushr dX2_load_170 t (2 ^ t) rfl (by omega) (by omega) (by omega) ?_
    refine w_el (2 * c + 1:Nat) (by rw [ipw, ← Int.natCast_ediv, ec, Nat.mul_div_cancel_left _ htp]) ?_
    refine v_put (fs' := [.int (iI (bz false)), .int (iI (bz mb)), .long (jL (2 * c + 1:Nat)), .int (iI 0)]) fX2_16 dX2_load_171 h_a (by decide) (Nat.le_of_ble_eq_true rfl) rfl rfl rfl (fun H1 eH1 => ?_)
    have h_a : H1 a = oPosit false mb (2 * c + 1:Nat) 0 := zf_same eH1
    have fr := fr.put eH1 (by simp)
    refine v_aload_n dX2_load_174 rfl ?_
    refine v_iconst (iI 4) dX2_load_175 rfl ?_
    refine v_iload dX2_load_176 rfl ?_
    refine w_imul dX2_load_178 ?_
    refine v_iload dX2_load_179 rfl ?_
    refine w_iadd dX2_load_181 ?_
    refine v_bipush (iI 28) dX2_load_182 rfl ?_
    refine w_isub dX2_load_184 ?_
    refine v_iload dX2_load_185 rfl ?_
    refine w_iadd dX2_load_187 ?_
    refine v_put (fs' := [.int (iI (bz false)), .int (iI (bz mb)), .long (jL (2 * c + 1:Nat)), .int (iI ((((4 * r) + (tail / 1073741824:Nat)) - 28) + (t:Nat)))]) fX2_20 dX2_load_188 h_a (by decide) (Nat.le_of_ble_eq_true rfl) rfl rfl rfl (fun H2 eH2 => ?_)
    have h_a : H2 a = oPosit false mb (2 * c + 1:Nat) ((((4 * r) + (tail / 1073741824:Nat)) - 28) + (t:Nat)) := zf_same eH2
    have fr := fr.put eH2 (by simp)
    exact v_vret dX2_load_191 trivial (Nat.le_of_ble_eq_true rfl) (Nat.le_of_ble_eq_true rfl) ⟨rfl, rfl, ⟨2 * c + 1, _, by rw [eq, decide_eq_false hpq, ← emb]; exact h_a, by
      unfold pd
      rw [eq, if_neg (by omega)]
      refine ⟨r, tail, t + 2, by rw [hu]; exact hdec, ?_, by omega, by omega⟩
      rw [Nat.pow_add, ← Nat.mul_assoc, Nat.mul_comm (2 * c + 1), ← ec]
      omega⟩, fr⟩
  have join : ∀ (mb : Bool) (u : Nat) (H : zH), mb = decide (q < p) → p ≠ q → p ≠ 0 → 0 < u → u < q → pmag p w = u → H a = oPosit false mb 0 0 → zFr [a] h H → (zV X (fun r h' n' => r = none ∧ n' = n ∧ (∃ (sg : Nat) (ex : Int), h' a = oPosit (decide (p = 2 ^ (w - 1))) (decide (2 ^ (w - 1) < p)) (sg : Nat) ex ∧ pd p w sg ex) ∧ zFr [a] h h') cX2_load 16 RX2 none d 0 0 79 [(0, .ref a), (3, .int (iI (w:Nat)))] [.long (jL (u:Nat))] H n 0 0) := by
    intro mb u H emb hpq hp0 hu0 huq hu h_a fr
    obtain ⟨B, eB⟩ : ∃ B, u * 2 ^ (65 - w) = B := ⟨_, rfl⟩
    have hB : B < 18446744073709551616 := by
      have := Nat.mul_lt_mul_of_pos_right huq (p_pos (65 - w))
      rw [← eq, ← Nat.pow_add, show w - 1 + (65 - w) = 64 from by omega, eB] at this
      exact this
    refine v_bipush (iI 65) dX2_load_79 rfl ?_
    refine v_iload_n dX2_load_81 rfl ?_
    refine w_isub dX2_load_82 ?_
    refine w_lshl dX2_load_83 (65 - w) (2 ^ (65 - w)) rfl (by omega) (by omega) ?_
    rcases Nat.lt_or_ge B 9223372036854775808 with hs | hs
    · obtain ⟨k, tail, ek, h1, h2, hdec, hrest, h4⟩ := dec_lo hw.1 hw.2 hu0 (by rw [eB]; exact hs)
      rw [eB] at ek hrest
      refine w_el (B:Nat) (by rw [ipw, ← Int.natCast_mul, eB]) ?_
      refine v_lstore (i := 6) (lv' := [(6, .long (jL (B:Nat))), (0, .ref a), (3, .int (iI (w:Nat)))]) dX2_load_84 (by decide) rfl ?_
      refine v_lload dX2_load_86 rfl ?_
      refine v_lconst (jL 0) dX2_load_88 rfl ?_
      refine w_lcmp_ge 102 dX2_load_89 dX2_load_90 (by decide) (by omega) (by decide) (fun c1 => ?_) (fun c1 => ?_)
      · skip
        refine v_lload dX2_load_102 rfl ?_
        refine v_cS (av := [.long (jL (B:Nat))]) (st := []) zyJ13_numberOfLeadingZeros_95d88 lX2_26 (p_nlzL (d := 1) (by decide) hB) dX2_load_104 rfl rfl (Nat.le_of_ble_eq_true rfl) (by omega) (Nat.le_of_ble_eq_true rfl) (Nat.le_of_ble_eq_true rfl) (Or.inl (fun _ _ _ q => ZN q)) (fun r9 K1 n9 q9 => ?_)
        obtain ⟨rfl, q9n, q9h⟩ := q9
        have q9n := q9n.symm
        subst q9n
        have q9h := q9h.symm
        subst q9h
        rw [ek]
        refine v_istore (i := 8) (lv' := [(8, .int (iI (k:Nat))), (6, .long (jL (B:Nat))), (0, .ref a), (3, .int (iI (w:Nat)))]) dX2_load_107 (by decide) rfl ?_
        refine v_lload dX2_load_109 rfl ?_
        refine v_lconst (jL 0) dX2_load_111 rfl ?_
        refine w_lcmp_ge 123 dX2_load_112 dX2_load_113 (by decide) (by omega) (by decide) (fun c2 => ?_) (fun c2 => ?_)
        · skip
          refine v_iload dX2_load_123 rfl ?_
          refine w_ineg dX2_load_125 ?_
          refine w_sub (lv2 := [(0, .ref a), (6, .long (jL (B:Nat))), (8, .int (iI (k:Nat)))]) [2, 1, 0] rfl ?_
          exact tl mb u _ _ k tail _ emb hpq hp0 hu hdec (by omega) (by rw [ipw]; exact shl_mod0 hrest) h4 h_a fr
        · exact absurd c1 (by omega)
      · exact absurd c1 (by omega)
    · obtain ⟨k, tail, ek, h1, h2, hdec, hrest, h4⟩ := dec_hi hw.1 hw.2 (by rw [eq]; exact huq) (by rw [eB]; exact hs)
      rw [eB] at ek hrest
      refine w_topl ((B:Int) - 18446744073709551616) (by rw [ipw, ← Int.natCast_mul, eB]; omega) ?_
      refine v_lstore (i := 6) (lv' := [(6, .long (jL ((B:Int) - 18446744073709551616))), (0, .ref a), (3, .int (iI (w:Nat)))]) dX2_load_84 (by decide) rfl ?_
      refine v_lload dX2_load_86 rfl ?_
      refine v_lconst (jL 0) dX2_load_88 rfl ?_
      refine w_lcmp_ge 102 dX2_load_89 dX2_load_90 (by decide) (by omega) (by decide) (fun c1 => ?_) (fun c1 => ?_)
      · exact absurd c1 (by omega)
      · skip
        refine v_lload dX2_load_93 rfl ?_
        refine w_lnot dX2_load_95 kX2_24 dX2_load_98 ?_
        refine v_goto 104 dX2_load_99 (by decide) ?_
        refine w_el (18446744073709551615 - B:Nat) (by omega) ?_
        refine v_cS (av := [.long (jL (18446744073709551615 - B:Nat))]) (st := []) zyJ13_numberOfLeadingZeros_95d88 lX2_26 (p_nlzL (d := 1) (by decide) (by omega)) dX2_load_104 rfl rfl (Nat.le_of_ble_eq_true rfl) (by omega) (Nat.le_of_ble_eq_true rfl) (Nat.le_of_ble_eq_true rfl) (Or.inl (fun _ _ _ q => ZN q)) (fun r9 K1 n9 q9 => ?_)
        obtain ⟨rfl, q9n, q9h⟩ := q9
        have q9n := q9n.symm
        subst q9n
        have q9h := q9h.symm
        subst q9h
        rw [ek]
        refine v_istore (i := 8) (lv' := [(8, .int (iI (k:Nat))), (6, .long (jL ((B:Int) - 18446744073709551616))), (0, .ref a), (3, .int (iI (w:Nat)))]) dX2_load_107 (by decide) rfl ?_
        refine v_lload dX2_load_109 rfl ?_
        refine v_lconst (jL 0) dX2_load_111 rfl ?_
        refine w_lcmp_ge 123 dX2_load_112 dX2_load_113 (by decide) (by omega) (by decide) (fun c2 => ?_) (fun c2 => ?_)
        · exact absurd c2 (by omega)
        · skip
          refine v_iload dX2_load_116 rfl ?_
          refine v_iconst (iI 1) dX2_load_118 rfl ?_
          refine w_isub dX2_load_119 ?_
          refine v_goto 126 dX2_load_120 (by decide) ?_
          refine w_sub (lv2 := [(0, .ref a), (6, .long (jL ((B:Int) - 18446744073709551616))), (8, .int (iI (k:Nat)))]) [2, 1, 0] rfl ?_
          exact tl mb u _ _ k tail _ emb hpq hp0 hu hdec (by omega) (by rw [ipw]; exact shl_mod1 hrest) h4 h_a fr
  have hm1 : q < p → pmag p w = 2 * q - p := fun z => by unfold pmag; rw [eq, if_pos z, e2]
  have hm0 : ¬ q < p → pmag p w = p := fun z => by unfold pmag; rw [eq, if_neg z]
  refine v_lstore (i := 4) (lv' := [(4, .long (jL (q:Nat))), (0, .ref a), (1, .long (jL (p:Nat))), (3, .int (iI (w:Nat)))]) dX2_load_5 (by decide) rfl ?_
  refine v_aload_n dX2_load_7 rfl ?_
  refine v_lload_n dX2_load_8 rfl ?_
  refine v_lload dX2_load_9 rfl ?_
  refine w_lcmp_ne 19 dX2_load_11 dX2_load_12 (by decide) (by omega) (by omega) (fun c1 => ?_) (fun c1 => ?_)
  · skip
    refine v_iconst (iI 0) dX2_load_19 rfl ?_
    refine w_ei (bz false) rfl ?_
    refine v_put (fs' := [.int (iI (bz false)), .int (iI (bz mi)), .long (jL s0), .int (iI x0)]) fX2_7 dX2_load_20 h_a (by decide) (Nat.le_of_ble_eq_true rfl) bz_n bz_f rfl (fun H1 eH1 => ?_)
    have h_a : H1 a = oPosit false mi s0 x0 := zf_same eH1
    have fr := fr.put eH1 (by simp)
    refine v_aload_n dX2_load_23 rfl ?_
    refine v_lload_n dX2_load_24 rfl ?_
    refine v_lload dX2_load_25 rfl ?_
    refine w_lcmp_le 35 dX2_load_27 dX2_load_28 (by decide) (by omega) (by omega) (fun c2 => ?_) (fun c2 => ?_)
    · skip
      refine v_iconst (iI 0) dX2_load_35 rfl ?_
      refine w_ei (bz false) rfl ?_
      refine v_put (fs' := [.int (iI (bz false)), .int (iI (bz false)), .long (jL s0), .int (iI x0)]) fX2_13 dX2_load_36 h_a (by decide) (Nat.le_of_ble_eq_true rfl) bz_n bz_f rfl (fun H2 eH2 => ?_)
      have h_a : H2 a = oPosit false false s0 x0 := zf_same eH2
      have fr := fr.put eH2 (by simp)
      refine v_aload_n dX2_load_39 rfl ?_
      refine v_lconst (jL 0) dX2_load_40 rfl ?_
      refine v_put (fs' := [.int (iI (bz false)), .int (iI (bz false)), .long (jL 0), .int (iI x0)]) fX2_16 dX2_load_41 h_a (by decide) (Nat.le_of_ble_eq_true rfl) rfl rfl rfl (fun H3 eH3 => ?_)
      have h_a : H3 a = oPosit false false 0 x0 := zf_same eH3
      have fr := fr.put eH3 (by simp)
      refine v_aload_n dX2_load_44 rfl ?_
      refine v_iconst (iI 0) dX2_load_45 rfl ?_
      refine v_put (fs' := [.int (iI (bz false)), .int (iI (bz false)), .long (jL 0), .int (iI 0)]) fX2_20 dX2_load_46 h_a (by decide) (Nat.le_of_ble_eq_true rfl) rfl rfl rfl (fun H4 eH4 => ?_)
      have h_a : H4 a = oPosit false false 0 0 := zf_same eH4
      have fr := fr.put eH4 (by simp)
      refine v_aload_n dX2_load_49 rfl ?_
      refine v_get fX2_7 dX2_load_50 h_a (by decide) rfl ?_
      refine w_ifb_ne 62 dX2_load_53 (by decide) (fun c3 => ?_) (fun c3 => ?_)
      · exact absurd c3 (by decide)
      · skip
        refine v_lload_n dX2_load_56 rfl ?_
        refine v_lconst (jL 0) dX2_load_57 rfl ?_
        refine w_lcmp_ne 63 dX2_load_58 dX2_load_59 (by decide) (by omega) (by decide) (fun c4 => ?_) (fun c4 => ?_)
        · skip
          refine v_aload_n dX2_load_63 rfl ?_
          refine v_get fX2_13 dX2_load_64 h_a (by decide) rfl ?_
          refine w_ifb_eq 78 dX2_load_67 (by decide) (fun c5 => ?_) (fun c5 => ?_)
          · skip
            refine v_lload_n dX2_load_78 rfl ?_
            refine w_sub (lv2 := [(0, .ref a), (3, .int (iI (w:Nat)))]) [1, 3] rfl ?_
            exact join false p _ (decide_eq_false (by omega)).symm (by omega) (by omega) (by omega) (by omega) (hm0 (by omega)) h_a fr
          · exact absurd c5 (by decide)
        · skip
          exact v_vret dX2_load_62 trivial (Nat.le_of_ble_eq_true rfl) (Nat.le_of_ble_eq_true rfl) ⟨rfl, rfl, ⟨0, 0, by rw [eq, decide_eq_false (by omega), decide_eq_false (by omega)]; exact h_a, by unfold pd; rw [if_pos (Or.inl (by omega))]; exact ⟨rfl, rfl⟩⟩, fr⟩
    · skip
      refine v_iconst (iI 1) dX2_load_31 rfl ?_
      refine v_goto 36 dX2_load_32 (by decide) ?_
      refine w_ei (bz true) rfl ?_
      refine v_put (fs' := [.int (iI (bz false)), .int (iI (bz true)), .long (jL s0), .int (iI x0)]) fX2_13 dX2_load_36 h_a (by decide) (Nat.le_of_ble_eq_true rfl) bz_n bz_f rfl (fun H2 eH2 => ?_)
      have h_a : H2 a = oPosit false true s0 x0 := zf_same eH2
      have fr := fr.put eH2 (by simp)
      refine v_aload_n dX2_load_39 rfl ?_
      refine v_lconst (jL 0) dX2_load_40 rfl ?_
      refine v_put (fs' := [.int (iI (bz false)), .int (iI (bz true)), .long (jL 0), .int (iI x0)]) fX2_16 dX2_load_41 h_a (by decide) (Nat.le_of_ble_eq_true rfl) rfl rfl rfl (fun H3 eH3 => ?_)
      have h_a : H3 a = oPosit false true 0 x0 := zf_same eH3
      have fr := fr.put eH3 (by simp)
      refine v_aload_n dX2_load_44 rfl ?_
      refine v_iconst (iI 0) dX2_load_45 rfl ?_
      refine v_put (fs' := [.int (iI (bz false)), .int (iI (bz true)), .long (jL 0), .int (iI 0)]) fX2_20 dX2_load_46 h_a (by decide) (Nat.le_of_ble_eq_true rfl) rfl rfl rfl (fun H4 eH4 => ?_)
      have h_a : H4 a = oPosit false true 0 0 := zf_same eH4
      have fr := fr.put eH4 (by simp)
      refine v_aload_n dX2_load_49 rfl ?_
      refine v_get fX2_7 dX2_load_50 h_a (by decide) rfl ?_
      refine w_ifb_ne 62 dX2_load_53 (by decide) (fun c3 => ?_) (fun c3 => ?_)
      · exact absurd c3 (by decide)
      · skip
        refine v_lload_n dX2_load_56 rfl ?_
        refine v_lconst (jL 0) dX2_load_57 rfl ?_
        refine w_lcmp_ne 63 dX2_load_58 dX2_load_59 (by decide) (by omega) (by decide) (fun c4 => ?_) (fun c4 => ?_)
        · skip
          refine v_aload_n dX2_load_63 rfl ?_
          refine v_get fX2_13 dX2_load_64 h_a (by decide) rfl ?_
          refine w_ifb_eq 78 dX2_load_67 (by decide) (fun c5 => ?_) (fun c5 => ?_)
          · exact absurd c5 (by decide)
          · skip
            refine v_lconst (jL 1) dX2_load_70 rfl ?_
            refine v_iload_n dX2_load_71 rfl ?_
            refine w_lshl dX2_load_72 w (2 ^ w) rfl (by omega) (by omega) ?_
            refine v_lload_n dX2_load_73 rfl ?_
            refine w_lsub dX2_load_74 ?_
            refine v_goto 79 dX2_load_75 (by decide) ?_
            refine w_el (2 * q - p:Nat) (by rw [ip, e2]; omega) ?_
            refine w_sub (lv2 := [(0, .ref a), (3, .int (iI (w:Nat)))]) [1, 3] rfl ?_
            exact join true (2 * q - p) _ (decide_eq_true (by omega)).symm (by omega) (by omega) (by omega) (by omega) (hm1 (by omega)) h_a fr
        · exact absurd c4 (by omega)
  · skip
    refine v_iconst (iI 1) dX2_load_15 rfl ?_
    refine v_goto 20 dX2_load_16 (by decide) ?_
    refine w_ei (bz true) rfl ?_
    refine v_put (fs' := [.int (iI (bz true)), .int (iI (bz mi)), .long (jL s0), .int (iI x0)]) fX2_7 dX2_load_20 h_a (by decide) (Nat.le_of_ble_eq_true rfl) bz_n bz_f rfl (fun H1 eH1 => ?_)
    have h_a : H1 a = oPosit true mi s0 x0 := zf_same eH1
    have fr := fr.put eH1 (by simp)
    refine v_aload_n dX2_load_23 rfl ?_
    refine v_lload_n dX2_load_24 rfl ?_
    refine v_lload dX2_load_25 rfl ?_
    refine w_lcmp_le 35 dX2_load_27 dX2_load_28 (by decide) (by omega) (by omega) (fun c2 => ?_) (fun c2 => ?_)
    · skip
      refine v_iconst (iI 0) dX2_load_35 rfl ?_
      refine w_ei (bz false) rfl ?_
      refine v_put (fs' := [.int (iI (bz true)), .int (iI (bz false)), .long (jL s0), .int (iI x0)]) fX2_13 dX2_load_36 h_a (by decide) (Nat.le_of_ble_eq_true rfl) bz_n bz_f rfl (fun H2 eH2 => ?_)
      have h_a : H2 a = oPosit true false s0 x0 := zf_same eH2
      have fr := fr.put eH2 (by simp)
      refine v_aload_n dX2_load_39 rfl ?_
      refine v_lconst (jL 0) dX2_load_40 rfl ?_
      refine v_put (fs' := [.int (iI (bz true)), .int (iI (bz false)), .long (jL 0), .int (iI x0)]) fX2_16 dX2_load_41 h_a (by decide) (Nat.le_of_ble_eq_true rfl) rfl rfl rfl (fun H3 eH3 => ?_)
      have h_a : H3 a = oPosit true false 0 x0 := zf_same eH3
      have fr := fr.put eH3 (by simp)
      refine v_aload_n dX2_load_44 rfl ?_
      refine v_iconst (iI 0) dX2_load_45 rfl ?_
      refine v_put (fs' := [.int (iI (bz true)), .int (iI (bz false)), .long (jL 0), .int (iI 0)]) fX2_20 dX2_load_46 h_a (by decide) (Nat.le_of_ble_eq_true rfl) rfl rfl rfl (fun H4 eH4 => ?_)
      have h_a : H4 a = oPosit true false 0 0 := zf_same eH4
      have fr := fr.put eH4 (by simp)
      refine v_aload_n dX2_load_49 rfl ?_
      refine v_get fX2_7 dX2_load_50 h_a (by decide) rfl ?_
      refine w_ifb_ne 62 dX2_load_53 (by decide) (fun c3 => ?_) (fun c3 => ?_)
      · skip
        exact v_vret dX2_load_62 trivial (Nat.le_of_ble_eq_true rfl) (Nat.le_of_ble_eq_true rfl) ⟨rfl, rfl, ⟨0, 0, by rw [eq, decide_eq_true (by omega), decide_eq_false (by omega)]; exact h_a, by unfold pd; rw [eq, if_pos (Or.inr (by omega))]; exact ⟨rfl, rfl⟩⟩, fr⟩
      · exact absurd c3 (by decide)
    · exact absurd c2 (by omega)
