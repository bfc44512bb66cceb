/-! Rounding: ofLong, ofWide -/
theorem enc_lt {r : Int} {tail : Nat} (h1 : -39 ≤ r) (h2 : r ≤ 38) (ht : tail < 4294967296) : enc r tail < 2 ^ 72 := by
  unfold enc
  by_cases q : 0 ≤ r
  · rw [if_pos q]
    have e1 : 2 ^ (71 - r.toNat) = 8589934592 * 2 ^ (38 - r.toNat) := by rw [show (8589934592 : Nat) = 2 ^ 33 from rfl, ← Nat.pow_add, show 33 + (38 - r.toNat) = 71 - r.toNat from by omega]
    have h3 : tail * 2 ^ (38 - r.toNat) ≤ 4294967295 * 2 ^ (38 - r.toNat) := Nat.mul_le_mul_right _ (by omega)
    have h4 := p_pos (38 - r.toNat)
    have h5 : 2 ^ (71 - r.toNat) ≤ 2 ^ 71 := Nat.pow_le_pow_right (by decide) (by omega)
    omega
  · rw [if_neg q]
    have e1 : 2 ^ (71 - (-r).toNat) = 4294967296 * 2 ^ (39 - (-r).toNat) := by rw [show (4294967296 : Nat) = 2 ^ 32 from rfl, ← Nat.pow_add, show 32 + (39 - (-r).toNat) = 71 - (-r).toNat from by omega]
    have h3 : tail * 2 ^ (39 - (-r).toNat) ≤ 4294967295 * 2 ^ (39 - (-r).toNat) := Nat.mul_le_mul_right _ (by omega)
    have h4 := p_pos (39 - (-r).toNat)
    have h5 : 2 ^ (71 - (-r).toNat) ≤ 2 ^ 70 := Nat.pow_le_pow_right (by decide) (by omega)
    omega
theorem tail_lt {scale : Int} {kept : Nat} : tailOf scale kept < 4294967296 := by unfold tailOf; omega
theorem cut_le {n U : Nat} {more : Bool} (hn : 1 ≤ n ∧ n ≤ 32) (hU : U < 2 ^ 72) : cut n U more ≤ 2 ^ (n - 1) := by
  have e : U / 2 ^ (73 - n) < 2 ^ (n - 1) := Nat.div_lt_of_lt_mul (by rw [← Nat.pow_add, show 73 - n + (n - 1) = 72 from by omega]; exact hU)
  unfold cut; split <;> omega
theorem rsz_le {n kept : Nat} {scale : Int} {more : Bool} (hn : 3 ≤ n ∧ n ≤ 32) : rsz n scale kept more ≤ 2 ^ (n - 1) := by
  have hp := p_pos (n - 1)
  unfold rsz
  split
  · omega
  · split
    · exact hp
    · exact cut_le (by omega) (enc_lt (by omega) (by omega) tail_lt)
/-- the first 31 bits of S -/
def kpt (S : Nat) : Nat := if 31 < nb S then S / 2 ^ (nb S - 31) else S * 2 ^ (31 - nb S)
def lost (S : Nat) : Bool := decide (31 < nb S ∧ kpt S * 2 ^ (nb S - 31) ≠ S)
/-- the rounding of S 2^X and perhaps a little more, with its sign -/
def rlg (n : Nat) (minus : Bool) (S : Nat) (X : Int) (more : Bool) : Nat := if S = 0 then 0 else cond minus (2 ^ n - rsz n (X + (nb S : Nat) - 1) (kpt S) (more || lost S)) (rsz n (X + (nb S : Nat) - 1) (kpt S) (more || lost S))
theorem kpt_r {S : Nat} (h : S ≠ 0) : 1073741824 ≤ kpt S ∧ kpt S < 2147483648 := by
  have h1 := nb_lo h
  have h2 := nb_hi S
  have h3 := nb_pos h
  unfold kpt
  split
  · rename_i q
    constructor
    · rw [Nat.le_div_iff_mul_le (p_pos _), show (1073741824 : Nat) = 2 ^ 30 from rfl, ← Nat.pow_add, show 30 + (nb S - 31) = nb S - 1 from by omega]; exact h1
    · apply Nat.div_lt_of_lt_mul
      rw [show (2147483648 : Nat) = 2 ^ 31 from rfl, ← Nat.pow_add, show nb S - 31 + 31 = nb S from by omega]; exact h2
  · rename_i q
    constructor
    · have := Nat.mul_le_mul_right (2 ^ (31 - nb S)) h1
      rw [← Nat.pow_add, show nb S - 1 + (31 - nb S) = 30 from by omega] at this
      exact this
    · have := Nat.mul_lt_mul_of_pos_right h2 (p_pos (31 - nb S))
      rw [← Nat.pow_add, show nb S + (31 - nb S) = 31 from by omega] at this
      exact this
set_option maxHeartbeats 4000000 in
set_option maxRecDepth 100000 in
theorem p_ofLong {d n w S : Nat} {X9 : Int} {minus more : Bool} {h : zH} (hd : 2 ≤ d) (hw : 3 ≤ w ∧ w ≤ 32) (hS : S < 9223372036854775808) (hx : -50000 ≤ X9 ∧ X9 ≤ 50000) :
    zM yX4_ofLong cX4_ofLong 13 (some .long) d 0 0 [.int (iI (w:Nat)), .int (iI (bz minus)), .long (jL (S:Nat)), .int (iI X9), .int (iI (bz more))] h n (fun r h' n' => r = some (.long (jL (rlg w minus S X9 more : Nat))) ∧ n' = n ∧ h' = h) := by
  refine zM_of zyX4_ofLong rfl (Nat.le_of_ble_eq_true rfl) (fun X hX => ?_)
  refine v_lload_n dX4_ofLong_0 rfl ?_
  refine v_lconst (jL 0) dX4_ofLong_1 rfl ?_
  refine w_lcmp_gt 8 dX4_ofLong_2 dX4_ofLong_3 (by decide) (by omega) (by decide) (fun c0 => ?_) (fun c0 => ?_)
  · have h0 : S ≠ 0 := by omega
    have hk := kpt_r h0
    have hb1 := nb_pos h0
    have hb2 : nb S ≤ 63 := nb_le (k := 63) hS
    have hrs := rsz_le (n := w) (kept := kpt S) (scale := X9 + (nb S : Nat) - 1) (more := more || lost S) hw
    have hpw : 2 ^ (w - 1) ≤ 2 ^ 31 := Nat.pow_le_pow_right (by decide) (by omega)
    have hpw2 : 2 ^ w = 2 * 2 ^ (w - 1) := by rw [Nat.mul_comm, ← Nat.pow_succ]; congr 1; omega
    obtain ⟨k, ek⟩ : ∃ k, kpt S = k := ⟨_, rfl⟩
    obtain ⟨u, eu⟩ : ∃ u, rsz w (X9 + (nb S : Nat) - 1) k (more || lost S) = u := ⟨_, rfl⟩
    have er : rlg w minus S X9 more = cond minus (2 ^ w - u) u := by unfold rlg; rw [if_neg h0, ek, eu]
    rw [ek] at hk
    rw [ek, eu] at hrs
    have fin : ∀ bb : Bool, bb = (more || lost S) → (zV X (fun r h' n' => r = some (.long (jL (rlg w minus S X9 more : Nat))) ∧ n' = n ∧ h' = h) cX4_ofLong 13 RX4 (some .long) d 0 0 88 [(0, .int (iI (w:Nat))), (1, .int (iI (bz minus)))] [.int (iI (bz bb)), .long (jL (k:Nat)), .int (iI (X9 + (nb S : Nat) - 1)), .int (iI (w:Nat))] h n 0 0) := by
      intro bb hbb
      refine v_cS (av := [.int (iI (w:Nat)), .int (iI (X9 + (nb S : Nat) - 1)), .long (jL (k:Nat)), .int (iI (bz bb))]) (st := []) zyX4_ofSize lX4_15 (p_ofSize (d := 1) (by decide) hw (by omega) hk) dX4_ofLong_88 rfl rfl (Nat.le_of_ble_eq_true rfl) (by omega) (Nat.le_of_ble_eq_true rfl) (Nat.le_of_ble_eq_true rfl) (Or.inl (fun _ _ _ q => ZN q)) (fun r9 K1 n9 q9 => ?_)
      obtain ⟨rfl, q9n, q9h⟩ := q9
      have q9n := q9n.symm
      subst q9n
      have q9h := q9h.symm
      subst q9h
      rw [hbb, eu]
      refine v_lstore (i := 11) (lv' := [(11, .long (jL (u:Nat))), (0, .int (iI (w:Nat))), (1, .int (iI (bz minus)))]) dX4_ofLong_91 (by decide) rfl ?_
      refine v_iload_n dX4_ofLong_93 rfl ?_
      refine w_ifb_eq 106 dX4_ofLong_94 (by decide) (fun c1 => ?_) (fun c1 => ?_)
      · skip
        refine v_lload dX4_ofLong_106 rfl ?_
        exact v_lret dX4_ofLong_108 trivial (Nat.le_of_ble_eq_true rfl) (Nat.le_of_ble_eq_true rfl) ⟨by rw [er, c1, cond_false], rfl, rfl⟩
      · skip
        refine v_lconst (jL 1) dX4_ofLong_97 rfl ?_
        refine v_iload_n dX4_ofLong_98 rfl ?_
        refine w_lshl dX4_ofLong_99 w (2 ^ w) rfl (by omega) (by omega) ?_
        refine v_lload dX4_ofLong_100 rfl ?_
        refine w_lsub dX4_ofLong_102 ?_
        refine v_goto 108 dX4_ofLong_103 (by decide) ?_
        exact v_lret dX4_ofLong_108 trivial (Nat.le_of_ble_eq_true rfl) (Nat.le_of_ble_eq_true rfl) ⟨by rw [er, c1, cond_true, ip, Int.natCast_sub (by omega)], rfl, rfl⟩
    have mid : (zV X (fun r h' n' => r = some (.long (jL (rlg w minus S X9 more : Nat))) ∧ n' = n ∧ h' = h) cX4_ofLong 13 RX4 (some .long) d 0 0 41 [(0, .int (iI (w:Nat))), (1, .int (iI (bz minus))), (2, .long (jL (S:Nat))), (4, .int (iI X9)), (5, .int (iI (bz more))), (6, .int (iI ((nb S : Nat) - 1))), (7, .int (iI ((nb S : Nat) - 31)))] [.long (jL (k:Nat))] h n 0 0) := by
      have low : ∀ bb : Bool, bb = lost S → (zV X (fun r h' n' => r = some (.long (jL (rlg w minus S X9 more : Nat))) ∧ n' = n ∧ h' = h) cX4_ofLong 13 RX4 (some .long) d 0 0 63 [(0, .int (iI (w:Nat))), (1, .int (iI (bz minus))), (4, .int (iI X9)), (5, .int (iI (bz more))), (6, .int (iI ((nb S : Nat) - 1))), (8, .long (jL (k:Nat)))] [.int (iI (bz bb))] h n 0 0) := by
        intro bb hbb
        refine v_istore (i := 10) (lv' := [(10, .int (iI (bz bb))), (0, .int (iI (w:Nat))), (1, .int (iI (bz minus))), (4, .int (iI X9)), (5, .int (iI (bz more))), (6, .int (iI ((nb S : Nat) - 1))), (8, .long (jL (k:Nat)))]) dX4_ofLong_63 (by decide) rfl ?_
        refine v_iload_n dX4_ofLong_65 rfl ?_
        refine v_iload dX4_ofLong_66 rfl ?_
        refine v_iload dX4_ofLong_68 rfl ?_
        refine w_iadd dX4_ofLong_70 ?_
        refine w_ei (X9 + (nb S : Nat) - 1) (by omega) ?_
        refine v_lload dX4_ofLong_71 rfl ?_
        refine v_iload dX4_ofLong_73 rfl ?_
        refine w_ifb_ne 83 dX4_ofLong_75 (by decide) (fun c1 => ?_) (fun c1 => ?_)
        · skip
          refine v_iconst (iI 1) dX4_ofLong_83 rfl ?_
          refine v_goto 88 dX4_ofLong_84 (by decide) ?_
          refine w_sub (lv2 := [(0, .int (iI (w:Nat))), (1, .int (iI (bz minus)))]) [1, 2] rfl ?_
          exact fin true (by rw [c1]; rfl)
        · skip
          refine v_iload dX4_ofLong_78 rfl ?_
          refine w_ifb_eq 87 dX4_ofLong_80 (by decide) (fun c2 => ?_) (fun c2 => ?_)
          · skip
            refine v_iconst (iI 0) dX4_ofLong_87 rfl ?_
            refine w_sub (lv2 := [(0, .int (iI (w:Nat))), (1, .int (iI (bz minus)))]) [1, 2] rfl ?_
            exact fin false (by rw [c1, ← hbb, c2]; rfl)
          · skip
            refine v_iconst (iI 1) dX4_ofLong_83 rfl ?_
            refine v_goto 88 dX4_ofLong_84 (by decide) ?_
            refine w_sub (lv2 := [(0, .int (iI (w:Nat))), (1, .int (iI (bz minus)))]) [1, 2] rfl ?_
            exact fin true (by rw [c1, ← hbb, c2]; rfl)
      refine v_lstore (i := 8) (lv' := [(8, .long (jL (k:Nat))), (0, .int (iI (w:Nat))), (1, .int (iI (bz minus))), (2, .long (jL (S:Nat))), (4, .int (iI X9)), (5, .int (iI (bz more))), (6, .int (iI ((nb S : Nat) - 1))), (7, .int (iI ((nb S : Nat) - 31)))]) dX4_ofLong_41 (by decide) rfl ?_
      refine v_iload dX4_ofLong_43 rfl ?_
      refine w_if_le 62 dX4_ofLong_45 (by decide) (by omega) (fun c1 => ?_) (fun c1 => ?_)
      · skip
        refine v_iconst (iI 0) dX4_ofLong_62 rfl ?_
        refine w_sub (lv2 := [(0, .int (iI (w:Nat))), (1, .int (iI (bz minus))), (4, .int (iI X9)), (5, .int (iI (bz more))), (6, .int (iI ((nb S : Nat) - 1))), (8, .long (jL (k:Nat)))]) [1, 2, 4, 5, 6, 0] rfl ?_
        exact low false (decide_eq_false (by omega)).symm
      · have hkk : k * 2 ^ (nb S - 31) ≤ S := by
          rw [← ek]; unfold kpt
          rw [if_pos (by omega)]; exact Nat.div_mul_le_self _ _
        refine v_lload dX4_ofLong_48 rfl ?_
        refine v_iload dX4_ofLong_50 rfl ?_
        refine w_lshl dX4_ofLong_52 (nb S - 31) (2 ^ (nb S - 31)) rfl (by omega) (by omega) ?_
        refine w_el (k * 2 ^ (nb S - 31):Nat) (by rw [ipw, Int.natCast_mul]) ?_
        refine v_lload_n dX4_ofLong_53 rfl ?_
        refine w_lcmp_eq 62 dX4_ofLong_54 dX4_ofLong_55 (by decide) (by omega) (by omega) (fun c2 => ?_) (fun c2 => ?_)
        · skip
          refine v_iconst (iI 0) dX4_ofLong_62 rfl ?_
          refine w_sub (lv2 := [(0, .int (iI (w:Nat))), (1, .int (iI (bz minus))), (4, .int (iI X9)), (5, .int (iI (bz more))), (6, .int (iI ((nb S : Nat) - 1))), (8, .long (jL (k:Nat)))]) [1, 2, 4, 5, 6, 0] rfl ?_
          exact low false (decide_eq_false (by rw [ek]; omega)).symm
        · skip
          refine v_iconst (iI 1) dX4_ofLong_58 rfl ?_
          refine v_goto 63 dX4_ofLong_59 (by decide) ?_
          refine w_sub (lv2 := [(0, .int (iI (w:Nat))), (1, .int (iI (bz minus))), (4, .int (iI X9)), (5, .int (iI (bz more))), (6, .int (iI ((nb S : Nat) - 1))), (8, .long (jL (k:Nat)))]) [1, 2, 4, 5, 6, 0] rfl ?_
          exact low true (decide_eq_true (by rw [ek]; omega)).symm
    refine v_bipush (iI 63) dX4_ofLong_8 rfl ?_
    refine v_lload_n dX4_ofLong_10 rfl ?_
    refine v_cS (av := [.long (jL (S:Nat))]) (st := [.int (iI 63)]) zyJ13_numberOfLeadingZeros_95d88 lX4_7 (p_nlzL (d := 1) (x := S) (by decide) (by omega)) dX4_ofLong_11 rfl rfl (Nat.le_of_ble_eq_true rfl) (by omega) (Nat.le_of_ble_eq_true rfl) (Nat.le_of_ble_eq_true rfl) (Or.inl (fun _ _ _ q => ZN q)) (fun r9 K1 n9 q9 => ?_)
    obtain ⟨rfl, q9n, q9h⟩ := q9
    have q9n := q9n.symm
    subst q9n
    have q9h := q9h.symm
    subst q9h
    refine w_isub dX4_ofLong_14 ?_
    refine w_ei ((nb S : Nat) - 1) (by omega) ?_
    refine v_istore (i := 6) (lv' := [(6, .int (iI ((nb S : Nat) - 1))), (0, .int (iI (w:Nat))), (1, .int (iI (bz minus))), (2, .long (jL (S:Nat))), (4, .int (iI X9)), (5, .int (iI (bz more)))]) dX4_ofLong_15 (by decide) rfl ?_
    refine v_iload dX4_ofLong_17 rfl ?_
    refine v_bipush (iI 30) dX4_ofLong_19 rfl ?_
    refine w_isub dX4_ofLong_21 ?_
    refine w_ei ((nb S : Nat) - 31) (by omega) ?_
    refine v_istore (i := 7) (lv' := [(7, .int (iI ((nb S : Nat) - 31))), (6, .int (iI ((nb S : Nat) - 1))), (0, .int (iI (w:Nat))), (1, .int (iI (bz minus))), (2, .long (jL (S:Nat))), (4, .int (iI X9)), (5, .int (iI (bz more)))]) dX4_ofLong_22 (by decide) rfl ?_
    refine v_iload dX4_ofLong_24 rfl ?_
    refine w_if_le 36 dX4_ofLong_26 (by decide) (by omega) (fun c1 => ?_) (fun c1 => ?_)
    · skip
      refine v_lload_n dX4_ofLong_36 rfl ?_
      refine v_iload dX4_ofLong_37 rfl ?_
      refine w_ineg dX4_ofLong_39 ?_
      refine w_lshl dX4_ofLong_40 (31 - nb S) (2 ^ (31 - nb S)) rfl (by omega) (by omega) ?_
      refine w_el (k:Nat) (by rw [← ek]; unfold kpt; rw [if_neg (by omega), ipw, Int.natCast_mul]) ?_
      refine w_sub (lv2 := [(0, .int (iI (w:Nat))), (1, .int (iI (bz minus))), (2, .long (jL (S:Nat))), (4, .int (iI X9)), (5, .int (iI (bz more))), (6, .int (iI ((nb S : Nat) - 1))), (7, .int (iI ((nb S : Nat) - 31)))]) [2, 3, 4, 5, 6, 1, 0] rfl ?_
      exact mid
    · skip
      refine v_lload_n dX4_ofLong_29 rfl ?_
      refine v_iload dX4_ofLong_30 rfl ?_
      refine w_lushr dX4_ofLong_32 (nb S - 31) (2 ^ (nb S - 31)) rfl (by omega) (by omega) (by omega) ?_
      refine w_el (k:Nat) (by rw [← ek]; unfold kpt; rw [if_pos (by omega), ipw, Int.natCast_ediv]) ?_
      refine v_goto 41 dX4_ofLong_33 (by decide) ?_
      refine w_sub (lv2 := [(0, .int (iI (w:Nat))), (1, .int (iI (bz minus))), (2, .long (jL (S:Nat))), (4, .int (iI X9)), (5, .int (iI (bz more))), (6, .int (iI ((nb S : Nat) - 1))), (7, .int (iI ((nb S : Nat) - 31)))]) [2, 3, 4, 5, 6, 1, 0] rfl ?_
      exact mid
  · skip
    refine v_lconst (jL 0) dX4_ofLong_6 rfl ?_
    exact v_lret dX4_ofLong_7 trivial (Nat.le_of_ble_eq_true rfl) (Nat.le_of_ble_eq_true rfl) ⟨by rw [show rlg w minus S X9 more = 0 from by unfold rlg; rw [if_pos (by omega)]]; rfl, rfl, rfl⟩
/-- the rounding of a long number v 2^X -/
def rwd (n : Nat) (minus : Bool) (v : Nat) (X : Int) : Nat := rlg n minus (v / 2 ^ (nb v - 62)) (X + ((nb v - 62 : Nat) : Int)) (decide (v % 2 ^ (nb v - 62) ≠ 0))
set_option maxHeartbeats 4000000 in
set_option maxRecDepth 100000 in
theorem p_ofWide {d n a b v w : Nat} {X9 : Int} {minus : Bool} {h : zH} (hw9 : WD h a b v) (hd : 3 ≤ d) (hw : 3 ≤ w ∧ w ≤ 32) (hx : -40000 ≤ X9 ∧ X9 ≤ 40000) :
    zM yX4_ofWide cX4_ofWide 5 (some .long) d 0 0 [.int (iI (w:Nat)), .int (iI (bz minus)), .ref a, .int (iI X9)] h n (fun r h' n' => r = some (.long (jL (rwd w minus v X9 : Nat))) ∧ n' = n ∧ h' = h) := by
  have hb : nb v ≤ 512 := nb_le hw9.lt
  obtain ⟨u9, f9, h_a, -⟩ := id hw9
  refine zM_of zyX4_ofWide rfl (Nat.le_of_ble_eq_true rfl) (fun X hX => ?_)
  obtain ⟨lo, elo⟩ : ∃ lo, nb v - 62 = lo := ⟨_, rfl⟩
  have hS : v / 2 ^ lo < 4611686018427387904 := by
    apply Nat.div_lt_of_lt_mul
    have h1 := nb_hi v
    have h2 : 2 ^ nb v ≤ 2 ^ (lo + 62) := Nat.pow_le_pow_right (by decide) (by omega)
    rw [Nat.pow_add] at h2
    exact Nat.lt_of_lt_of_le h1 h2
  refine v_iconst (iI 0) dX4_ofWide_0 rfl ?_
  refine v_aload_n dX4_ofWide_1 rfl ?_
  refine v_cV (av := []) (st := [.int (iI 0)]) zyX7_bits lX4_19 h_a rfl (p_bits (d := 1) hw9 (by decide)) dX4_ofWide_2 rfl rfl (Nat.le_of_ble_eq_true rfl) (by omega) (Nat.le_of_ble_eq_true rfl) (Nat.le_of_ble_eq_true rfl) (Or.inl (fun _ _ _ q => ZN q)) (fun r9 K1 n9 q9 => ?_)
  obtain ⟨rfl, q9n, q9h⟩ := q9
  have q9n := q9n.symm
  subst q9n
  have q9h := q9h.symm
  subst q9h
  refine v_bipush (iI 62) dX4_ofWide_5 rfl ?_
  refine w_isub dX4_ofWide_7 ?_
  refine v_cS (av := [.int (iI 0), .int (iI ((nb v:Nat) - 62))]) (st := []) zyJ9_max_7cf53 lX4_25 (p_max (d := 0) (by omega) (by omega)) dX4_ofWide_8 rfl rfl (Nat.le_of_ble_eq_true rfl) (by omega) (Nat.le_of_ble_eq_true rfl) (Nat.le_of_ble_eq_true rfl) (Or.inl (fun _ _ _ q => ZN q)) (fun r9 K2 n9 q9 => ?_)
  obtain ⟨rfl, q9n, q9h⟩ := q9
  have q9n := q9n.symm
  subst q9n
  have q9h := q9h.symm
  subst q9h
  refine w_ei (lo:Nat) (by omega) ?_
  refine v_istore (i := 4) (lv' := [(4, .int (iI (lo:Nat))), (0, .int (iI (w:Nat))), (1, .int (iI (bz minus))), (2, .ref a), (3, .int (iI X9))]) dX4_ofWide_11 (by decide) rfl ?_
  refine v_iload_n dX4_ofWide_13 rfl ?_
  refine v_iload_n dX4_ofWide_14 rfl ?_
  refine v_aload_n dX4_ofWide_15 rfl ?_
  refine v_iload dX4_ofWide_16 rfl ?_
  refine v_cV (av := [.int (iI (lo:Nat))]) (st := [.int (iI (bz minus)), .int (iI (w:Nat))]) zyX7_window lX4_31 h_a rfl (p_window (d := 1) hw9 (by decide) (by omega)) dX4_ofWide_18 rfl rfl (Nat.le_of_ble_eq_true rfl) (by omega) (Nat.le_of_ble_eq_true rfl) (Nat.le_of_ble_eq_true rfl) (Or.inl (fun _ _ _ q => ZN q)) (fun r9 K3 n9 q9 => ?_)
  obtain ⟨rfl, q9n, q9h⟩ := q9
  have q9n := q9n.symm
  subst q9n
  have q9h := q9h.symm
  subst q9h
  rw [Nat.mod_eq_of_lt (show v / 2 ^ lo < 18446744073709551616 by omega)]
  refine w_el (v / 2 ^ lo:Nat) rfl ?_
  refine v_iload_n dX4_ofWide_21 rfl ?_
  refine v_iload dX4_ofWide_22 rfl ?_
  refine w_iadd dX4_ofWide_24 ?_
  refine v_aload_n dX4_ofWide_25 rfl ?_
  refine v_iload dX4_ofWide_26 rfl ?_
  refine v_cV (av := [.int (iI (lo:Nat))]) (st := [.int (iI (X9 + (lo:Nat))), .long (jL (v / 2 ^ lo:Nat)), .int (iI (bz minus)), .int (iI (w:Nat))]) zyX7_anyBelow lX4_35 h_a rfl (p_anyBelow (d := 1) hw9 (by decide) (by omega)) dX4_ofWide_28 rfl rfl (Nat.le_of_ble_eq_true rfl) (by omega) (Nat.le_of_ble_eq_true rfl) (Nat.le_of_ble_eq_true rfl) (Or.inl (fun _ _ _ q => ZN q)) (fun r9 K4 n9 q9 => ?_)
  obtain ⟨rfl, q9n, q9h⟩ := q9
  have q9n := q9n.symm
  subst q9n
  have q9h := q9h.symm
  subst q9h
  refine v_cS (av := [.int (iI (w:Nat)), .int (iI (bz minus)), .long (jL (v / 2 ^ lo:Nat)), .int (iI (X9 + (lo:Nat))), .int (iI (bz (decide (v % 2 ^ lo ≠ 0))))]) (st := []) zyX4_ofLong lX4_39 (p_ofLong (d := 2) (by decide) hw (by omega) (by omega)) dX4_ofWide_31 rfl rfl (Nat.le_of_ble_eq_true rfl) (by omega) (Nat.le_of_ble_eq_true rfl) (Nat.le_of_ble_eq_true rfl) (Or.inl (fun _ _ _ q => ZN q)) (fun r9 K5 n9 q9 => ?_)
  obtain ⟨rfl, q9n, q9h⟩ := q9
  have q9n := q9n.symm
  subst q9n
  have q9h := q9h.symm
  subst q9h
  exact v_lret dX4_ofWide_34 trivial (Nat.le_of_ble_eq_true rfl) (Nat.le_of_ble_eq_true rfl) ⟨by unfold rwd; rw [elo], rfl, rfl⟩
