/-! Rounding: what its methods answer, as pure functions -/
set_option maxHeartbeats 4000000 in
set_option maxRecDepth 100000 in
theorem p_greatest {d n w : Nat} {h : zH} (hw : w < 64) :
    zM yX4_greatest cX4_greatest 1 (some .long) d 0 0 [.int (iI (w:Nat))] h n (fun r h' n' => r = some (.long (jL (2 ^ w - 1 : Nat))) ∧ n' = n ∧ h' = h) := by
  refine zM_of zyX4_greatest rfl (Nat.le_of_ble_eq_true rfl) (fun X hX => ?_)
  have hp := p_pos w
  refine v_lconst (jL 1) dX4_greatest_0 rfl ?_
  refine v_iload_n dX4_greatest_1 rfl ?_
  refine w_lshl dX4_greatest_2 w (2 ^ w) rfl (by omega) (by omega) ?_
  refine w_el (2 ^ w:Nat) (ip w) ?_
  refine v_lconst (jL 1) dX4_greatest_3 rfl ?_
  refine w_lsub dX4_greatest_4 ?_
  exact v_lret dX4_greatest_5 trivial (Nat.le_of_ble_eq_true rfl) (Nat.le_of_ble_eq_true rfl) ⟨by rw [Int.natCast_sub hp]; rfl, rfl, rfl⟩
set_option maxHeartbeats 4000000 in
set_option maxRecDepth 100000 in
theorem p_notReal {d n w : Nat} {h : zH} (hw : 1 ≤ w ∧ w ≤ 64) :
    zM yX4_notReal cX4_notReal 1 (some .long) d 0 0 [.int (iI (w:Nat))] h n (fun r h' n' => r = some (.long (jL (2 ^ (w - 1) : Nat))) ∧ n' = n ∧ h' = h) := by
  refine zM_of zyX4_notReal rfl (Nat.le_of_ble_eq_true rfl) (fun X hX => ?_)
  refine v_lconst (jL 1) dX4_notReal_0 rfl ?_
  refine v_iload_n dX4_notReal_1 rfl ?_
  refine v_iconst (iI 1) dX4_notReal_2 rfl ?_
  refine w_isub dX4_notReal_3 ?_
  refine w_lshl dX4_notReal_4 (w - 1) (2 ^ (w - 1)) rfl (by omega) (by omega) ?_
  exact v_lret dX4_notReal_5 trivial (Nat.le_of_ble_eq_true rfl) (Nat.le_of_ble_eq_true rfl) ⟨by rw [ip], rfl, rfl⟩
def tailOf (scale : Int) (kept : Nat) : Nat := (scale % 4).toNat * 1073741824 + kept % 1073741824
/-- the rounding of the bits U of a size, with more behind them or not -/
def cut (n U : Nat) (more : Bool) : Nat := if 2 ^ (72 - n) < U % 2 ^ (73 - n) ∨ (U % 2 ^ (73 - n) = 2 ^ (72 - n) ∧ (more = true ∨ U / 2 ^ (73 - n) % 2 = 1)) then U / 2 ^ (73 - n) + 1 else U / 2 ^ (73 - n)
/-- the rounding of kept 2^(scale-30), kept of 31 bits, and perhaps a little more -/
def rsz (n : Nat) (scale : Int) (kept : Nat) (more : Bool) : Nat := if 4 * ((n : Int) - 2) ≤ scale then 2 ^ (n - 1) - 1 else if scale < -(4 * ((n : Int) - 2)) then 1 else cut n (enc (scale / 4) (tailOf scale kept)) more
theorem cut_low {n U all s L more} (hs : U = all * 2 ^ s) (hL : s + L = 72) (hn : 1 ≤ n) (hn2 : n ≤ L) : cut n U more = if 2 ^ (L - n) < all % 2 ^ (L - (n - 1)) ∨ (all % 2 ^ (L - (n - 1)) = 2 ^ (L - n) ∧ (more = true ∨ all / 2 ^ (L - (n - 1)) % 2 = 1)) then all / 2 ^ (L - (n - 1)) + 1 else all / 2 ^ (L - (n - 1)) := by
  have e1 : 2 ^ (73 - n) = 2 ^ (L - (n - 1)) * 2 ^ s := by rw [← Nat.pow_add]; congr 1; omega
  have e2 : 2 ^ (72 - n) = 2 ^ (L - n) * 2 ^ s := by rw [← Nat.pow_add]; congr 1; omega
  have hp := p_pos s
  unfold cut
  rw [hs, e1, e2, Nat.mul_mod_mul_right, Nat.mul_div_mul_right _ _ hp]
  have i1 : 2 ^ (L - n) * 2 ^ s < all % 2 ^ (L - (n - 1)) * 2 ^ s ↔ 2 ^ (L - n) < all % 2 ^ (L - (n - 1)) := Nat.mul_lt_mul_right hp
  have i2 : all % 2 ^ (L - (n - 1)) * 2 ^ s = 2 ^ (L - n) * 2 ^ s ↔ all % 2 ^ (L - (n - 1)) = 2 ^ (L - n) := ⟨fun z => Nat.mul_right_cancel hp z, fun z => by rw [z]⟩
  simp only [i1, i2]
set_option maxHeartbeats 4000000 in
set_option maxRecDepth 100000 in
theorem p_ofSize {d n w kept : Nat} {scale : Int} {more : Bool} {h : zH} (hd : 1 ≤ d) (hw : 3 ≤ w ∧ w ≤ 32) (hs : -100000 ≤ scale ∧ scale ≤ 100000) (hk : 1073741824 ≤ kept ∧ kept < 2147483648) :
    zM yX4_ofSize cX4_ofSize 21 (some .long) d 0 0 [.int (iI (w:Nat)), .int (iI scale), .long (jL (kept:Nat)), .int (iI (bz more))] h n (fun r h' n' => r = some (.long (jL (rsz w scale kept more : Nat))) ∧ n' = n ∧ h' = h) := by
  refine zM_of zyX4_ofSize rfl (Nat.le_of_ble_eq_true rfl) (fun X hX => ?_)
  have tl : ∀ (rb all L s : Nat), rb + 32 = L → s + L = 72 → 34 ≤ L → L ≤ 63 → all < 2 ^ L → ¬ 4 * ((w : Int) - 2) ≤ scale → ¬ scale < -(4 * ((w : Int) - 2)) → enc (scale / 4) (tailOf scale kept) = all * 2 ^ s → (zV X (fun r h' n' => r = some (.long (jL (rsz w scale kept more : Nat))) ∧ n' = n ∧ h' = h) cX4_ofSize 21 RX4 (some .long) d 0 0 96 [(0, .int (iI (w:Nat))), (4, .int (iI (bz more))), (6, .int (iI (rb:Nat)))] [.long (jL (all:Nat))] h n 0 0) := by
    intro rb all L s e1 e2 h34 h63 hall g1 g2 henc
    have hall2 : all < 9223372036854775808 := Nat.lt_of_lt_of_le hall (Nat.pow_le_pow_right (show 0 < 2 by decide) h63)
    have er : rsz w scale kept more = cut w (enc (scale / 4) (tailOf scale kept)) more := by unfold rsz; rw [if_neg g1, if_neg g2]
    rw [cut_low henc e2 (by omega) (by omega)] at er
    obtain ⟨dr, edr⟩ : ∃ dr, L - (w - 1) = dr := ⟨_, rfl⟩
    rw [edr, show L - w = dr - 1 from by omega] at er
    obtain ⟨u, eu⟩ : ∃ u, all / 2 ^ dr = u := ⟨_, rfl⟩
    obtain ⟨m, em⟩ : ∃ m, all % 2 ^ dr = m := ⟨_, rfl⟩
    obtain ⟨hf, ehf⟩ : ∃ hf, 2 ^ (dr - 1) = hf := ⟨_, rfl⟩
    rw [eu, em, ehf] at er
    have hu : u ≤ all := by rw [← eu]; exact Nat.div_le_self _ _
    have hm : m ≤ all := by rw [← em]; exact Nat.mod_le _ _
    have hhf : hf ≤ 4611686018427387904 := by rw [← ehf]; exact Nat.pow_le_pow_right (show 0 < 2 by decide) (show dr - 1 ≤ 62 by omega)
    refine v_lstore (i := 11) (lv' := [(11, .long (jL (all:Nat))), (0, .int (iI (w:Nat))), (4, .int (iI (bz more))), (6, .int (iI (rb:Nat)))]) dX4_ofSize_96 (by decide) rfl ?_
    refine v_iload dX4_ofSize_98 rfl ?_
    refine v_bipush (iI 30) dX4_ofSize_100 rfl ?_
    refine w_iadd dX4_ofSize_102 ?_
    refine v_iconst (iI 2) dX4_ofSize_103 rfl ?_
    refine w_iadd dX4_ofSize_104 ?_
    refine v_iload_n dX4_ofSize_105 rfl ?_
    refine v_iconst (iI 1) dX4_ofSize_106 rfl ?_
    refine w_isub dX4_ofSize_107 ?_
    refine w_isub dX4_ofSize_108 ?_
    refine w_ei (dr:Nat) (by omega) ?_
    refine v_istore (i := 13) (lv' := [(13, .int (iI (dr:Nat))), (11, .long (jL (all:Nat))), (0, .int (iI (w:Nat))), (4, .int (iI (bz more))), (6, .int (iI (rb:Nat)))]) dX4_ofSize_109 (by decide) rfl ?_
    refine v_lload dX4_ofSize_111 rfl ?_
    refine v_iload dX4_ofSize_113 rfl ?_
    refine w_lushr dX4_ofSize_115 dr (2 ^ dr) rfl (by omega) (by omega) (by omega) ?_
    refine w_el (u:Nat) (by rw [ipw, ← Int.natCast_ediv, eu]) ?_
    refine v_lstore (i := 14) (lv' := [(14, .long (jL (u:Nat))), (13, .int (iI (dr:Nat))), (11, .long (jL (all:Nat))), (0, .int (iI (w:Nat))), (4, .int (iI (bz more))), (6, .int (iI (rb:Nat)))]) dX4_ofSize_116 (by decide) rfl ?_
    refine v_lload dX4_ofSize_118 rfl ?_
    refine v_iload dX4_ofSize_120 rfl ?_
    refine v_cS (av := [.int (iI (dr:Nat))]) (st := [.long (jL (all:Nat))]) zyX4_greatest lX4_43 (p_greatest (d := 0) (by omega)) dX4_ofSize_122 rfl rfl (Nat.le_of_ble_eq_true rfl) (by omega) (Nat.le_of_ble_eq_true rfl) (Nat.le_of_ble_eq_true rfl) (Or.inl (fun _ _ _ q => ZN q)) (fun r9 K1 n9 q9 => ?_)
    obtain ⟨rfl, q9n, q9h⟩ := q9
    have q9n := q9n.symm
    subst q9n
    have q9h := q9h.symm
    subst q9h
    refine w_landm dX4_ofSize_125 dr (2 ^ dr) rfl (by omega) (by rw [Int.natCast_sub (p_pos dr), ipw]; rfl) ?_
    refine w_el (m:Nat) (by rw [ipw, ← Int.natCast_emod, em]) ?_
    refine v_lstore (i := 16) (lv' := [(16, .long (jL (m:Nat))), (14, .long (jL (u:Nat))), (13, .int (iI (dr:Nat))), (11, .long (jL (all:Nat))), (0, .int (iI (w:Nat))), (4, .int (iI (bz more))), (6, .int (iI (rb:Nat)))]) dX4_ofSize_126 (by decide) rfl ?_
    refine v_lconst (jL 1) dX4_ofSize_128 rfl ?_
    refine v_iload dX4_ofSize_129 rfl ?_
    refine v_iconst (iI 1) dX4_ofSize_131 rfl ?_
    refine w_isub dX4_ofSize_132 ?_
    refine w_lshl dX4_ofSize_133 (dr - 1) (2 ^ (dr - 1)) rfl (by omega) (by omega) ?_
    refine w_el (hf:Nat) (by rw [ip, ehf]) ?_
    have up : u + 1 = rsz w scale kept more → (zV X (fun r h' n' => r = some (.long (jL (rsz w scale kept more : Nat))) ∧ n' = n ∧ h' = h) cX4_ofSize 21 RX4 (some .long) d 0 0 171 [(14, .long (jL (u:Nat)))] [.int (iI 1)] h n 0 0) := by
      intro e9
      refine v_istore (i := 20) (lv' := [(20, .int (iI 1)), (14, .long (jL (u:Nat)))]) dX4_ofSize_171 (by decide) rfl ?_
      refine v_iload dX4_ofSize_173 rfl ?_
      refine w_if_eq 185 dX4_ofSize_175 (by decide) (by decide) (fun c9 => ?_) (fun c9 => ?_)
      · exact absurd c9 (by decide)
      · skip
        refine v_lload dX4_ofSize_178 rfl ?_
        refine v_lconst (jL 1) dX4_ofSize_180 rfl ?_
        refine w_ladd dX4_ofSize_181 ?_
        refine v_goto 187 dX4_ofSize_182 (by decide) ?_
        exact v_lret dX4_ofSize_187 trivial (Nat.le_of_ble_eq_true rfl) (Nat.le_of_ble_eq_true rfl) ⟨by rw [← e9]; rfl, rfl, rfl⟩
    have dn : u = rsz w scale kept more → (zV X (fun r h' n' => r = some (.long (jL (rsz w scale kept more : Nat))) ∧ n' = n ∧ h' = h) cX4_ofSize 21 RX4 (some .long) d 0 0 171 [(14, .long (jL (u:Nat)))] [.int (iI 0)] h n 0 0) := by
      intro e9
      refine v_istore (i := 20) (lv' := [(20, .int (iI 0)), (14, .long (jL (u:Nat)))]) dX4_ofSize_171 (by decide) rfl ?_
      refine v_iload dX4_ofSize_173 rfl ?_
      refine w_if_eq 185 dX4_ofSize_175 (by decide) (by decide) (fun c9 => ?_) (fun c9 => ?_)
      · skip
        refine v_lload dX4_ofSize_185 rfl ?_
        exact v_lret dX4_ofSize_187 trivial (Nat.le_of_ble_eq_true rfl) (Nat.le_of_ble_eq_true rfl) ⟨by rw [← e9], rfl, rfl⟩
      · exact absurd rfl c9
    refine v_lstore (i := 18) (lv' := [(18, .long (jL (hf:Nat))), (16, .long (jL (m:Nat))), (14, .long (jL (u:Nat))), (13, .int (iI (dr:Nat))), (11, .long (jL (all:Nat))), (0, .int (iI (w:Nat))), (4, .int (iI (bz more))), (6, .int (iI (rb:Nat)))]) dX4_ofSize_134 (by decide) rfl ?_
    refine v_lload dX4_ofSize_136 rfl ?_
    refine v_lload dX4_ofSize_138 rfl ?_
    refine w_lcmp_gt 166 dX4_ofSize_140 dX4_ofSize_141 (by decide) (by omega) (by omega) (fun c1 => ?_) (fun c1 => ?_)
    · skip
      refine v_iconst (iI 1) dX4_ofSize_166 rfl ?_
      refine v_goto 171 dX4_ofSize_167 (by decide) ?_
      refine w_sub (lv2 := [(14, .long (jL (u:Nat)))]) [2] rfl ?_
      exact up (by rw [er, if_pos (Or.inl (by omega))])
    · skip
      refine v_lload dX4_ofSize_144 rfl ?_
      refine v_lload dX4_ofSize_146 rfl ?_
      refine w_lcmp_ne 170 dX4_ofSize_148 dX4_ofSize_149 (by decide) (by omega) (by omega) (fun c2 => ?_) (fun c2 => ?_)
      · skip
        refine v_iconst (iI 0) dX4_ofSize_170 rfl ?_
        refine w_sub (lv2 := [(14, .long (jL (u:Nat)))]) [2] rfl ?_
        exact dn (by rw [er, if_neg (by omega)])
      · skip
        refine v_iload dX4_ofSize_152 rfl ?_
        refine w_ifb_ne 166 dX4_ofSize_154 (by decide) (fun c3 => ?_) (fun c3 => ?_)
        · skip
          refine v_iconst (iI 1) dX4_ofSize_166 rfl ?_
          refine v_goto 171 dX4_ofSize_167 (by decide) ?_
          refine w_sub (lv2 := [(14, .long (jL (u:Nat)))]) [2] rfl ?_
          exact up (by rw [er, if_pos (Or.inr ⟨by omega, Or.inl c3⟩)])
        · skip
          refine v_lload dX4_ofSize_157 rfl ?_
          refine v_lconst (jL 1) dX4_ofSize_159 rfl ?_
          refine w_landm dX4_ofSize_160 1 2 rfl (by decide) rfl ?_
          refine v_lconst (jL 1) dX4_ofSize_161 rfl ?_
          refine w_lcmp_ne 170 dX4_ofSize_162 dX4_ofSize_163 (by decide) (by omega) (by decide) (fun c4 => ?_) (fun c4 => ?_)
          · skip
            refine v_iconst (iI 0) dX4_ofSize_170 rfl ?_
            refine w_sub (lv2 := [(14, .long (jL (u:Nat)))]) [2] rfl ?_
            exact dn (by rw [er, if_neg (fun z => by
              rcases z with z | ⟨z1, z2 | z2⟩
              · omega
              · rw [c3] at z2; exact absurd z2 (by decide)
              · omega)])
          · skip
            refine v_iconst (iI 1) dX4_ofSize_166 rfl ?_
            refine v_goto 171 dX4_ofSize_167 (by decide) ?_
            refine w_sub (lv2 := [(14, .long (jL (u:Nat)))]) [2] rfl ?_
            exact up (by rw [er, if_pos (Or.inr ⟨by omega, Or.inr (by omega)⟩)])
  refine v_iload_n dX4_ofSize_0 rfl ?_
  refine v_iconst (iI 4) dX4_ofSize_1 rfl ?_
  refine v_iload_n dX4_ofSize_2 rfl ?_
  refine v_iconst (iI 2) dX4_ofSize_3 rfl ?_
  refine w_isub dX4_ofSize_4 ?_
  refine w_imul dX4_ofSize_5 ?_
  refine w_ei (4 * ((w : Int) - 2)) rfl ?_
  refine w_icmp_lt 16 dX4_ofSize_6 (by decide) (by omega) (by omega) (fun c1 => ?_) (fun c1 => ?_)
  · skip
    refine v_iload_n dX4_ofSize_16 rfl ?_
    refine v_bipush (iI (-4)) dX4_ofSize_17 rfl ?_
    refine v_iload_n dX4_ofSize_19 rfl ?_
    refine v_iconst (iI 2) dX4_ofSize_20 rfl ?_
    refine w_isub dX4_ofSize_21 ?_
    refine w_imul dX4_ofSize_22 ?_
    refine w_ei (-(4 * ((w : Int) - 2))) (by omega) ?_
    refine w_icmp_ge 28 dX4_ofSize_23 (by decide) (by omega) (by omega) (fun c2 => ?_) (fun c2 => ?_)
    · obtain ⟨r, er⟩ : ∃ r, scale / 4 = r := ⟨_, rfl⟩
      obtain ⟨tail, et⟩ : ∃ tail, tailOf scale kept = tail := ⟨_, rfl⟩
      have htl : tail < 4294967296 := by rw [← et]; unfold tailOf; omega
      have hr : -30 ≤ r ∧ r ≤ 29 := by omega
      have mid : ∀ (rb run : Nat), run * 4294967296 < 9223372036854775808 - 4294967296 → (zV X (fun r h' n' => r = some (.long (jL (rsz w scale kept more : Nat))) ∧ n' = n ∧ h' = h) cX4_ofSize 21 RX4 (some .long) d 0 0 90 [(0, .int (iI (w:Nat))), (1, .int (iI scale)), (2, .long (jL (kept:Nat))), (4, .int (iI (bz more))), (6, .int (iI (rb:Nat))), (7, .long (jL (run:Nat))), (9, .long (jL (tail:Nat)))] [.long (jL (run:Nat))] h n 0 0) → (zV X (fun r h' n' => r = some (.long (jL (rsz w scale kept more : Nat))) ∧ n' = n ∧ h' = h) cX4_ofSize 21 RX4 (some .long) d 0 0 69 [(0, .int (iI (w:Nat))), (1, .int (iI scale)), (2, .long (jL (kept:Nat))), (4, .int (iI (bz more))), (6, .int (iI (rb:Nat)))] [.long (jL (run:Nat))] h n 0 0) := by
        intro rb run hrun kk
        refine v_lstore (i := 7) (lv' := [(7, .long (jL (run:Nat))), (0, .int (iI (w:Nat))), (1, .int (iI scale)), (2, .long (jL (kept:Nat))), (4, .int (iI (bz more))), (6, .int (iI (rb:Nat)))]) dX4_ofSize_69 (by decide) rfl ?_
        refine v_iload_n dX4_ofSize_71 rfl ?_
        refine v_iconst (iI 3) dX4_ofSize_72 rfl ?_
        refine w_iandm dX4_ofSize_73 2 4 rfl (by decide) rfl ?_
        refine w_i2l dX4_ofSize_74 (by omega) ?_
        refine v_bipush (iI 30) dX4_ofSize_75 rfl ?_
        refine w_lshl dX4_ofSize_77 30 1073741824 rfl rfl (by decide) ?_
        refine v_lload_n dX4_ofSize_78 rfl ?_
        refine v_bipush (iI 30) dX4_ofSize_79 rfl ?_
        refine v_cS (av := [.int (iI 30)]) (st := [.long (jL (kept:Nat)), .long (jL ((scale % 4) * 1073741824))]) zyX4_greatest lX4_43 (p_greatest (d := 0) (w := 30) (by decide)) dX4_ofSize_81 rfl rfl (Nat.le_of_ble_eq_true rfl) (by omega) (Nat.le_of_ble_eq_true rfl) (Nat.le_of_ble_eq_true rfl) (Or.inl (fun _ _ _ q => ZN q)) (fun r9 K1 n9 q9 => ?_)
        obtain ⟨rfl, q9n, q9h⟩ := q9
        have q9n := q9n.symm
        subst q9n
        have q9h := q9h.symm
        subst q9h
        refine w_landm dX4_ofSize_84 30 1073741824 rfl (by decide) rfl ?_
        refine w_lor dX4_ofSize_85 30 1073741824 rfl (by decide) (by omega) (by omega) ?_
        refine w_el (tail:Nat) (by rw [← et]; unfold tailOf; omega) ?_
        refine v_lstore (i := 9) (lv' := [(9, .long (jL (tail:Nat))), (7, .long (jL (run:Nat))), (0, .int (iI (w:Nat))), (1, .int (iI scale)), (2, .long (jL (kept:Nat))), (4, .int (iI (bz more))), (6, .int (iI (rb:Nat)))]) dX4_ofSize_86 (by decide) rfl ?_
        refine v_lload dX4_ofSize_88 rfl ?_
        refine w_sub (lv2 := [(0, .int (iI (w:Nat))), (1, .int (iI scale)), (2, .long (jL (kept:Nat))), (4, .int (iI (bz more))), (6, .int (iI (rb:Nat))), (7, .long (jL (run:Nat))), (9, .long (jL (tail:Nat)))]) [2, 3, 4, 5, 6, 1, 0] rfl ?_
        exact kk
      refine v_iload_n dX4_ofSize_28 rfl ?_
      refine v_iconst (iI 2) dX4_ofSize_29 rfl ?_
      refine w_ishr dX4_ofSize_30 2 4 rfl rfl (by decide) (by omega) ?_
      refine w_ei r er ?_
      refine v_istore (i := 5) (lv' := [(5, .int (iI r)), (0, .int (iI (w:Nat))), (1, .int (iI scale)), (2, .long (jL (kept:Nat))), (4, .int (iI (bz more)))]) dX4_ofSize_31 (by decide) rfl ?_
      refine v_iload dX4_ofSize_33 rfl ?_
      refine w_if_lt 45 dX4_ofSize_35 (by decide) (by omega) (fun c3 => ?_) (fun c3 => ?_)
      · skip
        refine v_iconst (iI 1) dX4_ofSize_45 rfl ?_
        refine v_iload dX4_ofSize_46 rfl ?_
        refine w_isub dX4_ofSize_48 ?_
        refine w_ei ((1 - r).toNat) (by omega) ?_
        refine v_istore (i := 6) (lv' := [(6, .int (iI ((1 - r).toNat))), (5, .int (iI r)), (0, .int (iI (w:Nat))), (1, .int (iI scale)), (2, .long (jL (kept:Nat))), (4, .int (iI (bz more)))]) dX4_ofSize_49 (by decide) rfl ?_
        refine v_iload dX4_ofSize_51 rfl ?_
        refine w_if_lt 68 dX4_ofSize_53 (by decide) (by omega) (fun c4 => ?_) (fun c4 => ?_)
        · skip
          refine v_lconst (jL 1) dX4_ofSize_68 rfl ?_
          refine w_sub (lv2 := [(0, .int (iI (w:Nat))), (1, .int (iI scale)), (2, .long (jL (kept:Nat))), (4, .int (iI (bz more))), (6, .int (iI ((1 - r).toNat)))]) [2, 3, 4, 5, 0] rfl ?_
          refine mid _ 1 (by decide) ?_
          refine v_bipush (iI 32) dX4_ofSize_90 rfl ?_
          refine w_lshl dX4_ofSize_92 32 4294967296 rfl rfl (by decide) ?_
          refine v_lload dX4_ofSize_93 rfl ?_
          refine w_lor dX4_ofSize_95 32 4294967296 rfl (by decide) (by omega) (by omega) ?_
          refine w_el (4294967296 + tail:Nat) (by omega) ?_
          refine w_sub (lv2 := [(0, .int (iI (w:Nat))), (4, .int (iI (bz more))), (6, .int (iI ((1 - r).toNat:Nat)))]) [0, 3, 4] rfl ?_
          refine tl _ (4294967296 + tail) ((1 - r).toNat + 32) (72 - ((1 - r).toNat + 32)) rfl (by omega) (by omega) (by omega) ?_ (by omega) (by omega) ?_
          · have : 2 ^ 34 ≤ 2 ^ ((1 - r).toNat + 32) := Nat.pow_le_pow_right (by decide) (by omega)
            omega
          · rw [er, et]; unfold enc
            have e7 : 4294967296 * 2 ^ (39 - (-r).toNat) = 2 ^ (71 - (-r).toNat) := by
              rw [show (4294967296 : Nat) = 2 ^ 32 from rfl, ← Nat.pow_add, show 32 + (39 - (-r).toNat) = 71 - (-r).toNat from by omega]
            rw [if_neg (by omega), Nat.add_mul, show 72 - ((1 - r).toNat + 32) = 39 - (-r).toNat from by omega, e7]
        · exact absurd c3 c4
      · skip
        refine v_iload dX4_ofSize_38 rfl ?_
        refine v_iconst (iI 2) dX4_ofSize_40 rfl ?_
        refine w_iadd dX4_ofSize_41 ?_
        refine v_goto 49 dX4_ofSize_42 (by decide) ?_
        refine w_ei ((r + 2).toNat) (by omega) ?_
        refine v_istore (i := 6) (lv' := [(6, .int (iI ((r + 2).toNat))), (5, .int (iI r)), (0, .int (iI (w:Nat))), (1, .int (iI scale)), (2, .long (jL (kept:Nat))), (4, .int (iI (bz more)))]) dX4_ofSize_49 (by decide) rfl ?_
        refine v_iload dX4_ofSize_51 rfl ?_
        refine w_if_lt 68 dX4_ofSize_53 (by decide) (by omega) (fun c4 => ?_) (fun c4 => ?_)
        · exact absurd c4 c3
        · skip
          refine v_iload dX4_ofSize_56 rfl ?_
          refine v_iconst (iI 1) dX4_ofSize_58 rfl ?_
          refine w_iadd dX4_ofSize_59 ?_
          refine w_ei ((r + 1).toNat) (by omega) ?_
          have hp := p_pos (r + 1).toNat
          have hp2 : 2 ^ (r + 1).toNat ≤ 1073741824 := Nat.pow_le_pow_right (show 0 < 2 by decide) (show (r + 1).toNat ≤ 30 by omega)
          refine v_cS (av := [.int (iI ((r + 1).toNat))]) (st := []) zyX4_greatest lX4_43 (p_greatest (d := 0) (by omega)) dX4_ofSize_60 rfl rfl (Nat.le_of_ble_eq_true rfl) (by omega) (Nat.le_of_ble_eq_true rfl) (Nat.le_of_ble_eq_true rfl) (Or.inl (fun _ _ _ q => ZN q)) (fun r9 K1 n9 q9 => ?_)
          obtain ⟨rfl, q9n, q9h⟩ := q9
          have q9n := q9n.symm
          subst q9n
          have q9h := q9h.symm
          subst q9h
          refine v_iconst (iI 1) dX4_ofSize_63 rfl ?_
          refine w_lshl dX4_ofSize_64 1 2 rfl rfl (by decide) ?_
          refine w_el ((2 ^ (r + 1).toNat - 1) * 2:Nat) (by rw [Int.natCast_mul]; rfl) ?_
          refine v_goto 69 dX4_ofSize_65 (by decide) ?_
          refine w_sub (lv2 := [(0, .int (iI (w:Nat))), (1, .int (iI scale)), (2, .long (jL (kept:Nat))), (4, .int (iI (bz more))), (6, .int (iI ((r + 2).toNat)))]) [2, 3, 4, 5, 0] rfl ?_
          refine mid _ ((2 ^ (r + 1).toNat - 1) * 2) (by omega) ?_
          refine v_bipush (iI 32) dX4_ofSize_90 rfl ?_
          refine w_lshl dX4_ofSize_92 32 4294967296 rfl rfl (by decide) ?_
          refine v_lload dX4_ofSize_93 rfl ?_
          refine w_lor dX4_ofSize_95 32 4294967296 rfl (by decide) (by omega) (by omega) ?_
          refine w_el ((2 ^ (r + 1).toNat - 1) * 2 * 4294967296 + tail:Nat) (by rw [Int.natCast_add, Int.natCast_mul]; rfl) ?_
          refine w_sub (lv2 := [(0, .int (iI (w:Nat))), (4, .int (iI (bz more))), (6, .int (iI ((r + 2).toNat:Nat)))]) [0, 3, 4] rfl ?_
          have e9 : 2 ^ ((r + 2).toNat + 32) = 2 ^ (r + 1).toNat * 8589934592 := by
            rw [show (r + 2).toNat + 32 = (r + 1).toNat + 33 from by omega, Nat.pow_add]
          refine tl _ ((2 ^ (r + 1).toNat - 1) * 2 * 4294967296 + tail) ((r + 2).toNat + 32) (72 - ((r + 2).toNat + 32)) rfl (by omega) (by omega) (by omega) ?_ (by omega) (by omega) ?_
          · rw [e9]; omega
          · rw [er, et]; unfold enc
            have e5 : 2 ^ (r + 1).toNat * 8589934592 * 2 ^ (38 - r.toNat) = 2 ^ 72 := by
              rw [show (8589934592 : Nat) = 2 ^ 33 from rfl, ← Nat.pow_add, ← Nat.pow_add, show (r + 1).toNat + 33 + (38 - r.toNat) = 72 from by omega]
            have e6 : 8589934592 * 2 ^ (38 - r.toNat) = 2 ^ (71 - r.toNat) := by
              rw [show (8589934592 : Nat) = 2 ^ 33 from rfl, ← Nat.pow_add, show 33 + (38 - r.toNat) = 71 - r.toNat from by omega]
            have e7 : (2 ^ (r + 1).toNat - 1) * 2 * 4294967296 * 2 ^ (38 - r.toNat) = 2 ^ 72 - 2 ^ (71 - r.toNat) := by
              rw [Nat.mul_assoc (2 ^ (r + 1).toNat - 1) 2 4294967296, Nat.sub_mul, Nat.sub_mul, Nat.one_mul]
              rw [show 2 * 4294967296 = 8589934592 from rfl, e5, e6]
            rw [if_pos (by omega), show 72 - ((r + 2).toNat + 32) = 38 - r.toNat from by omega, Nat.add_mul, e7]
    · skip
      refine v_lconst (jL 1) dX4_ofSize_26 rfl ?_
      exact v_lret dX4_ofSize_27 trivial (Nat.le_of_ble_eq_true rfl) (Nat.le_of_ble_eq_true rfl) ⟨by rw [show rsz w scale kept more = 1 from by unfold rsz; rw [if_neg (by omega), if_pos (by omega)]]; rfl, rfl, rfl⟩
  · skip
    refine v_iload_n dX4_ofSize_9 rfl ?_
    refine v_iconst (iI 1) dX4_ofSize_10 rfl ?_
    refine w_isub dX4_ofSize_11 ?_
    refine w_ei (w - 1:Nat) (by omega) ?_
    refine v_cS (av := [.int (iI (w - 1:Nat))]) (st := []) zyX4_greatest lX4_43 (p_greatest (d := 0) (by omega)) dX4_ofSize_12 rfl rfl (Nat.le_of_ble_eq_true rfl) (by omega) (Nat.le_of_ble_eq_true rfl) (Nat.le_of_ble_eq_true rfl) (Or.inl (fun _ _ _ q => ZN q)) (fun r9 K1 n9 q9 => ?_)
    obtain ⟨rfl, q9n, q9h⟩ := q9
    have q9n := q9n.symm
    subst q9n
    have q9h := q9h.symm
    subst q9h
    exact v_lret dX4_ofSize_15 trivial (Nat.le_of_ble_eq_true rfl) (Nat.le_of_ble_eq_true rfl) ⟨by rw [show rsz w scale kept more = 2 ^ (w - 1) - 1 from by unfold rsz; rw [if_pos (by omega)]], rfl, rfl⟩
