/-! Posits: the other methods -/
set_option maxHeartbeats 4000000 in
set_option maxRecDepth 100000 in
theorem p_loadOne {d n a : Nat} {na mi : Bool} {s0 x0 : Int} {h : zH} (h_a : h a = oPosit na mi s0 x0) :
    zM yX2_loadOne cX2_loadOne 1 none d 0 0 [.ref a] h n (fun r h' n' => r = none ∧ n' = n ∧ h' a = oPosit false false 1 0 ∧ zFr [a] h h') := by
  refine zM_of zyX2_loadOne rfl (Nat.le_of_ble_eq_true rfl) (fun X hX => ?_)
  have fr : zFr [a] h h := zFr.rf
  refine v_aload_n dX2_loadOne_0 rfl ?_
  refine v_iconst (iI 0) dX2_loadOne_1 rfl ?_
  refine w_ei (bz false) rfl ?_
  refine v_put (fs' := [.int (iI (bz false)), .int (iI (bz mi)), .long (jL s0), .int (iI x0)]) fX2_7 dX2_loadOne_2 h_a (by decide) (Nat.le_of_ble_eq_true rfl) bz_n bz_f rfl (fun H1 eH1 => ?_)
  have h_a : H1 a = oPosit false mi s0 x0 := zf_same eH1
  have fr := fr.put eH1 (by simp)
  refine v_aload_n dX2_loadOne_5 rfl ?_
  refine v_iconst (iI 0) dX2_loadOne_6 rfl ?_
  refine w_ei (bz false) rfl ?_
  refine v_put (fs' := [.int (iI (bz false)), .int (iI (bz false)), .long (jL s0), .int (iI x0)]) fX2_13 dX2_loadOne_7 h_a (by decide) (Nat.le_of_ble_eq_true rfl) bz_n bz_f rfl (fun H2 eH2 => ?_)
  have h_a : H2 a = oPosit false false s0 x0 := zf_same eH2
  have fr := fr.put eH2 (by simp)
  refine v_aload_n dX2_loadOne_10 rfl ?_
  refine v_lconst (jL 1) dX2_loadOne_11 rfl ?_
  refine v_put (fs' := [.int (iI (bz false)), .int (iI (bz false)), .long (jL 1), .int (iI x0)]) fX2_16 dX2_loadOne_12 h_a (by decide) (Nat.le_of_ble_eq_true rfl) rfl rfl rfl (fun H3 eH3 => ?_)
  have h_a : H3 a = oPosit false false 1 x0 := zf_same eH3
  have fr := fr.put eH3 (by simp)
  refine v_aload_n dX2_loadOne_15 rfl ?_
  refine v_iconst (iI 0) dX2_loadOne_16 rfl ?_
  refine v_put (fs' := [.int (iI (bz false)), .int (iI (bz false)), .long (jL 1), .int (iI 0)]) fX2_20 dX2_loadOne_17 h_a (by decide) (Nat.le_of_ble_eq_true rfl) rfl rfl rfl (fun H4 eH4 => ?_)
  have h_a : H4 a = oPosit false false 1 0 := zf_same eH4
  have fr := fr.put eH4 (by simp)
  exact v_vret dX2_loadOne_20 trivial (Nat.le_of_ble_eq_true rfl) (Nat.le_of_ble_eq_true rfl) ⟨rfl, rfl, h_a, fr⟩
set_option maxHeartbeats 4000000 in
set_option maxRecDepth 100000 in
theorem p_scale {d n a sg : Nat} {na mi : Bool} {ex : Int} {h : zH} (h_a : h a = oPosit na mi (sg:Nat) ex) (hd : 2 ≤ d) (hs : sg < 2147483648) (hx : -1000 ≤ ex ∧ ex ≤ 1000) :
    zM yX2_scale cX2_scale 1 (some .int) d 0 0 [.ref a] h n (fun r h' n' => r = some (.int (iI (ex + (nb sg : Nat) - 1))) ∧ n' = n ∧ h' = h) := by
  have e2 : nb sg ≤ 31 := nb_le (k := 31) hs
  refine zM_of zyX2_scale rfl (Nat.le_of_ble_eq_true rfl) (fun X hX => ?_)
  refine v_aload_n dX2_scale_0 rfl ?_
  refine v_get fX2_20 dX2_scale_1 h_a (by decide) rfl ?_
  refine v_bipush (iI 63) dX2_scale_4 rfl ?_
  refine w_iadd dX2_scale_6 ?_
  refine v_aload_n dX2_scale_7 rfl ?_
  refine v_get fX2_16 dX2_scale_8 h_a (by decide) rfl ?_
  refine v_cS (av := [.long (jL (sg:Nat))]) (st := [.int (iI (ex + 63))]) zyJ13_numberOfLeadingZeros_95d88 lX2_26 (p_nlzL (d := 1) (x := sg) (by decide) (by omega)) dX2_scale_11 rfl rfl (Nat.le_of_ble_eq_true rfl) (by omega) (Nat.le_of_ble_eq_true rfl) (Nat.le_of_ble_eq_true rfl) (Or.inl (fun _ _ _ q => ZN q)) (fun r9 K1 n9 q9 => ?_)
  obtain ⟨rfl, q9n, q9h⟩ := q9
  have q9n := q9n.symm
  subst q9n
  have q9h := q9h.symm
  subst q9h
  refine w_isub dX2_scale_14 ?_
  exact v_iret dX2_scale_15 trivial (Nat.le_of_ble_eq_true rfl) (Nat.le_of_ble_eq_true rfl) ⟨by rw [show ex + 63 - ((64 - nb sg : Nat) : Int) = ex + (nb sg : Nat) - 1 from by omega], rfl, rfl⟩
set_option maxHeartbeats 4000000 in
set_option maxRecDepth 100000 in
theorem p_isWhole {d n a : Nat} {na mi : Bool} {sg ex : Int} {h : zH} (h_a : h a = oPosit na mi sg ex) (hx : -1000 ≤ ex ∧ ex ≤ 1000) :
    zM yX2_isWhole cX2_isWhole 1 (some .boolean) d 0 0 [.ref a] h n (fun r h' n' => r = some (.int (iI (bz (decide (0 ≤ ex))))) ∧ n' = n ∧ h' = h) := by
  refine zM_of zyX2_isWhole rfl (Nat.le_of_ble_eq_true rfl) (fun X hX => ?_)
  refine v_aload_n dX2_isWhole_0 rfl ?_
  refine v_get fX2_20 dX2_isWhole_1 h_a (by decide) rfl ?_
  refine w_if_lt 11 dX2_isWhole_4 (by decide) (by omega) (fun c => ?_) (fun c => ?_)
  · skip
    refine v_iconst (iI 0) dX2_isWhole_11 rfl ?_
    refine w_ei (bz false) rfl ?_
    exact v_iret dX2_isWhole_12 bz_ret (Nat.le_of_ble_eq_true rfl) (Nat.le_of_ble_eq_true rfl) ⟨by rw [decide_eq_false (by omega)], rfl, rfl⟩
  · skip
    refine v_iconst (iI 1) dX2_isWhole_7 rfl ?_
    refine v_goto 12 dX2_isWhole_8 (by decide) ?_
    refine w_ei (bz true) rfl ?_
    exact v_iret dX2_isWhole_12 bz_ret (Nat.le_of_ble_eq_true rfl) (Nat.le_of_ble_eq_true rfl) ⟨by rw [decide_eq_true (by omega)], rfl, rfl⟩
theorem div_small {sg t : Nat} (hs : sg < 2147483648) (ht : 31 ≤ t) : sg / 2 ^ t = 0 := Nat.div_eq_of_lt (Nat.lt_of_lt_of_le hs (Nat.pow_le_pow_right (show 0 < 2 by decide) ht))
set_option maxHeartbeats 4000000 in
set_option maxRecDepth 100000 in
theorem p_sizeDown {d n a sg t : Nat} {na mi : Bool} {ex : Int} {h : zH} (h_a : h a = oPosit na mi (sg:Nat) ex) (hs : sg < 2147483648) (hx : ex = -(t : Int)) (ht : t ≤ 1000) :
    zM yX2_sizeDown cX2_sizeDown 1 (some .long) d 0 0 [.ref a] h n (fun r h' n' => r = some (.long (jL (sg / 2 ^ t : Nat))) ∧ n' = n ∧ h' = h) := by
  refine zM_of zyX2_sizeDown rfl (Nat.le_of_ble_eq_true rfl) (fun X hX => ?_)
  refine v_aload_n dX2_sizeDown_0 rfl ?_
  refine v_get fX2_20 dX2_sizeDown_1 h_a (by decide) rfl ?_
  refine v_bipush (iI (-63)) dX2_sizeDown_4 rfl ?_
  refine w_icmp_le 22 dX2_sizeDown_6 (by decide) (by omega) (by decide) (fun c => ?_) (fun c => ?_)
  · skip
    refine v_lconst (jL 0) dX2_sizeDown_22 rfl ?_
    exact v_lret dX2_sizeDown_23 trivial (Nat.le_of_ble_eq_true rfl) (Nat.le_of_ble_eq_true rfl) ⟨by rw [div_small hs (by omega)]; rfl, rfl, rfl⟩
  · skip
    refine v_aload_n dX2_sizeDown_9 rfl ?_
    refine v_get fX2_16 dX2_sizeDown_10 h_a (by decide) rfl ?_
    refine v_aload_n dX2_sizeDown_13 rfl ?_
    refine v_get fX2_20 dX2_sizeDown_14 h_a (by decide) rfl ?_
    refine w_ineg dX2_sizeDown_17 ?_
    refine w_lushr dX2_sizeDown_18 t (2 ^ t) rfl (by omega) (by omega) (by omega) ?_
    refine v_goto 23 dX2_sizeDown_19 (by decide) ?_
    exact v_lret dX2_sizeDown_23 trivial (Nat.le_of_ble_eq_true rfl) (Nat.le_of_ble_eq_true rfl) ⟨by rw [ipw, ← Int.natCast_ediv], rfl, rfl⟩
/-- the nearest whole number to sg / 2^t, of two the even one -/
def rne (sg t : Nat) : Nat := if 2 ^ t < 2 * (sg % 2 ^ t) ∨ (2 ^ t = 2 * (sg % 2 ^ t) ∧ sg / 2 ^ t % 2 = 1) then sg / 2 ^ t + 1 else sg / 2 ^ t
set_option maxHeartbeats 4000000 in
set_option maxRecDepth 100000 in
theorem p_nearestSize {d n a sg t : Nat} {na mi : Bool} {ex : Int} {h : zH} (h_a : h a = oPosit na mi (sg:Nat) ex) (hd : 1 ≤ d) (hs : sg < 1073741824) (hx : ex = -(t : Int)) (ht : t ≤ 1000) :
    zM yX2_nearestSize cX2_nearestSize 7 (some .long) d 0 0 [.ref a] h n (fun r h' n' => r = some (.long (jL (rne sg t : Nat))) ∧ n' = n ∧ h' = h) := by
  refine zM_of zyX2_nearestSize rfl (Nat.le_of_ble_eq_true rfl) (fun X hX => ?_)
  refine v_aload_n dX2_nearestSize_0 rfl ?_
  refine v_get fX2_20 dX2_nearestSize_1 h_a (by decide) rfl ?_
  refine v_bipush (iI (-30)) dX2_nearestSize_4 rfl ?_
  refine w_icmp_ge 11 dX2_nearestSize_6 (by decide) (by omega) (by decide) (fun c => ?_) (fun c => ?_)
  · skip
    refine v_aload_n dX2_nearestSize_11 rfl ?_
    refine v_cV (av := []) (st := []) zyX2_sizeDown lX2_37 h_a rfl (p_sizeDown (d := 0) h_a (by omega) hx ht) dX2_nearestSize_12 rfl rfl (Nat.le_of_ble_eq_true rfl) (by omega) (Nat.le_of_ble_eq_true rfl) (Nat.le_of_ble_eq_true rfl) (Or.inl (fun _ _ _ q => ZN q)) (fun r9 K1 n9 q9 => ?_)
    obtain ⟨rfl, q9n, q9h⟩ := q9
    have q9n := q9n.symm
    subst q9n
    have q9h := q9h.symm
    subst q9h
    obtain ⟨q, eq⟩ : ∃ q, sg / 2 ^ t = q := ⟨_, rfl⟩
    obtain ⟨m, em⟩ : ∃ m, sg % 2 ^ t = m := ⟨_, rfl⟩
    obtain ⟨P, eP⟩ : ∃ P, 2 ^ t = P := ⟨_, rfl⟩
    have hP : 0 < P := by rw [← eP]; exact p_pos t
    have hP2 : P ≤ 1073741824 := by rw [← eP]; exact Nat.pow_le_pow_right (show 0 < 2 by decide) (show t ≤ 30 by omega)
    have hm : m < P := by rw [← em, ← eP]; exact Nat.mod_lt _ (p_pos t)
    have e1 : q * P + m = sg := by rw [← em, ← eP, ← eq, Nat.mul_comm]; exact Nat.div_add_mod sg (2 ^ t)
    have e2 : rne sg t = if P < 2 * m ∨ (P = 2 * m ∧ q % 2 = 1) then q + 1 else q := by unfold rne; rw [eq, em, eP]
    have hq : q ≤ sg := by rw [← eq]; exact Nat.div_le_self _ _
    rw [eq]
    refine w_el (q:Nat) rfl ?_
    refine v_lstore_n (i := 1) (lv' := [(1, .long (jL (q:Nat))), (0, .ref a)]) dX2_nearestSize_15 rfl (by decide) rfl ?_
    refine v_aload_n dX2_nearestSize_16 rfl ?_
    refine v_get fX2_16 dX2_nearestSize_17 h_a (by decide) rfl ?_
    refine v_lload_n dX2_nearestSize_20 rfl ?_
    refine v_aload_n dX2_nearestSize_21 rfl ?_
    refine v_get fX2_20 dX2_nearestSize_22 h_a (by decide) rfl ?_
    refine w_ineg dX2_nearestSize_25 ?_
    refine w_lshl dX2_nearestSize_26 t (2 ^ t) rfl (by omega) (by omega) ?_
    refine w_el (q * P:Nat) (by rw [ipw, eP, Int.natCast_mul]) ?_
    refine w_lsub dX2_nearestSize_27 ?_
    refine v_iconst (iI 1) dX2_nearestSize_28 rfl ?_
    refine w_lshl dX2_nearestSize_29 1 2 rfl rfl (by decide) ?_
    refine w_el (2 * m:Nat) (by omega) ?_
    refine v_lstore_n (i := 3) (lv' := [(3, .long (jL (2 * m:Nat))), (1, .long (jL (q:Nat))), (0, .ref a)]) dX2_nearestSize_30 rfl (by decide) rfl ?_
    refine v_lconst (jL 1) dX2_nearestSize_31 rfl ?_
    refine v_aload_n dX2_nearestSize_32 rfl ?_
    refine v_get fX2_20 dX2_nearestSize_33 h_a (by decide) rfl ?_
    refine w_ineg dX2_nearestSize_36 ?_
    refine w_lshl dX2_nearestSize_37 t (2 ^ t) rfl (by omega) (by omega) ?_
    refine w_el (P:Nat) (by rw [ip, eP]) ?_
    refine v_lstore (i := 5) (lv' := [(5, .long (jL (P:Nat))), (3, .long (jL (2 * m:Nat))), (1, .long (jL (q:Nat))), (0, .ref a)]) dX2_nearestSize_38 (by decide) rfl ?_
    refine v_lload_n dX2_nearestSize_40 rfl ?_
    refine v_lload dX2_nearestSize_41 rfl ?_
    refine w_lcmp_gt 62 dX2_nearestSize_43 dX2_nearestSize_44 (by decide) (by omega) (by omega) (fun c1 => ?_) (fun c1 => ?_)
    · skip
      refine v_lload_n dX2_nearestSize_62 rfl ?_
      refine v_lconst (jL 1) dX2_nearestSize_63 rfl ?_
      refine w_ladd dX2_nearestSize_64 ?_
      refine v_goto 69 dX2_nearestSize_65 (by decide) ?_
      exact v_lret dX2_nearestSize_69 trivial (Nat.le_of_ble_eq_true rfl) (Nat.le_of_ble_eq_true rfl) ⟨by rw [e2, if_pos (Or.inl (by omega))]; rfl, rfl, rfl⟩
    · skip
      refine v_lload_n dX2_nearestSize_47 rfl ?_
      refine v_lload dX2_nearestSize_48 rfl ?_
      refine w_lcmp_ne 68 dX2_nearestSize_50 dX2_nearestSize_51 (by decide) (by omega) (by omega) (fun c2 => ?_) (fun c2 => ?_)
      · skip
        refine v_lload_n dX2_nearestSize_68 rfl ?_
        exact v_lret dX2_nearestSize_69 trivial (Nat.le_of_ble_eq_true rfl) (Nat.le_of_ble_eq_true rfl) ⟨by rw [e2, if_neg (by omega)], rfl, rfl⟩
      · skip
        refine v_lload_n dX2_nearestSize_54 rfl ?_
        refine v_lconst (jL 1) dX2_nearestSize_55 rfl ?_
        refine w_landm dX2_nearestSize_56 1 2 rfl (by decide) rfl ?_
        refine v_lconst (jL 1) dX2_nearestSize_57 rfl ?_
        refine w_lcmp_ne 68 dX2_nearestSize_58 dX2_nearestSize_59 (by decide) (by omega) (by decide) (fun c3 => ?_) (fun c3 => ?_)
        · skip
          refine v_lload_n dX2_nearestSize_68 rfl ?_
          exact v_lret dX2_nearestSize_69 trivial (Nat.le_of_ble_eq_true rfl) (Nat.le_of_ble_eq_true rfl) ⟨by rw [e2, if_neg (by omega)], rfl, rfl⟩
        · skip
          refine v_lload_n dX2_nearestSize_62 rfl ?_
          refine v_lconst (jL 1) dX2_nearestSize_63 rfl ?_
          refine w_ladd dX2_nearestSize_64 ?_
          refine v_goto 69 dX2_nearestSize_65 (by decide) ?_
          exact v_lret dX2_nearestSize_69 trivial (Nat.le_of_ble_eq_true rfl) (Nat.le_of_ble_eq_true rfl) ⟨by rw [e2, if_pos (Or.inr ⟨by omega, by omega⟩)]; rfl, rfl, rfl⟩
  · have hP2 : 2 ^ 31 ≤ 2 ^ t := Nat.pow_le_pow_right (show 0 < 2 by decide) (show 31 ≤ t by omega)
    have e : rne sg t = 0 := by
      unfold rne
      rw [Nat.mod_eq_of_lt (by omega), Nat.div_eq_of_lt (by omega), if_neg (by omega)]
    refine v_lconst (jL 0) dX2_nearestSize_9 rfl ?_
    exact v_lret dX2_nearestSize_10 trivial (Nat.le_of_ble_eq_true rfl) (Nat.le_of_ble_eq_true rfl) ⟨by rw [e]; rfl, rfl, rfl⟩
set_option maxHeartbeats 4000000 in
set_option maxRecDepth 100000 in
theorem p_passesLong {d n a sg : Nat} {na mi : Bool} {ex : Int} {h : zH} (h_a : h a = oPosit na mi (sg:Nat) ex) (hd : 3 ≤ d) (hs : sg < 2147483648) (hx : -1000 ≤ ex ∧ ex ≤ 1000) :
    zM yX2_passesLong cX2_passesLong 2 (some .boolean) d 0 0 [.ref a] h n (fun r h' n' => r = some (.int (iI (bz (decide (sg ≠ 0 ∧ 62 < ex + (nb sg : Nat) - 1 ∧ ¬ (mi = true ∧ sg = 1 ∧ ex = 63)))))) ∧ n' = n ∧ h' = h) := by
  have e2 : nb sg ≤ 31 := nb_le (k := 31) hs
  refine zM_of zyX2_passesLong rfl (Nat.le_of_ble_eq_true rfl) (fun X hX => ?_)
  have join : ∀ (b : Bool), (b = true ↔ (mi = true ∧ sg = 1 ∧ ex = 63)) → ∀ y : Int, y = bz b → (zV X (fun r h' n' => r = some (.int (iI (bz (decide (sg ≠ 0 ∧ 62 < ex + (nb sg : Nat) - 1 ∧ ¬ (mi = true ∧ sg = 1 ∧ ex = 63)))))) ∧ n' = n ∧ h' = h) cX2_passesLong 2 RX2 (some .boolean) d 0 0 30 [(0, .ref a)] [.int (iI y)] h n 0 0) := by
    intro b hb y ey
    subst ey
    refine v_istore_n (i := 1) (lv' := [(1, .int (iI (bz b))), (0, .ref a)]) dX2_passesLong_30 rfl (by decide) rfl ?_
    refine v_aload_n dX2_passesLong_31 rfl ?_
    refine v_get fX2_16 dX2_passesLong_32 h_a (by decide) rfl ?_
    refine v_lconst (jL 0) dX2_passesLong_35 rfl ?_
    refine w_lcmp_eq 57 dX2_passesLong_36 dX2_passesLong_37 (by decide) (by omega) (by decide) (fun c1 => ?_) (fun c1 => ?_)
    · skip
      refine v_iconst (iI 0) dX2_passesLong_57 rfl ?_
      refine w_ei (bz false) rfl ?_
      exact v_iret dX2_passesLong_58 bz_ret (Nat.le_of_ble_eq_true rfl) (Nat.le_of_ble_eq_true rfl) ⟨by rw [decide_eq_false (by omega)], rfl, rfl⟩
    · skip
      refine v_aload_n dX2_passesLong_40 rfl ?_
      refine v_cV (av := []) (st := []) zyX2_scale lX2_41 h_a rfl (p_scale (d := 2) h_a (by decide) hs hx) dX2_passesLong_41 rfl rfl (Nat.le_of_ble_eq_true rfl) (by omega) (Nat.le_of_ble_eq_true rfl) (Nat.le_of_ble_eq_true rfl) (Or.inl (fun _ _ _ q => ZN q)) (fun r9 K1 n9 q9 => ?_)
      obtain ⟨rfl, q9n, q9h⟩ := q9
      have q9n := q9n.symm
      subst q9n
      have q9h := q9h.symm
      subst q9h
      refine v_bipush (iI 62) dX2_passesLong_44 rfl ?_
      refine w_icmp_le 57 dX2_passesLong_46 (by decide) (by omega) (by decide) (fun c2 => ?_) (fun c2 => ?_)
      · skip
        refine v_iconst (iI 0) dX2_passesLong_57 rfl ?_
        refine w_ei (bz false) rfl ?_
        exact v_iret dX2_passesLong_58 bz_ret (Nat.le_of_ble_eq_true rfl) (Nat.le_of_ble_eq_true rfl) ⟨by rw [decide_eq_false (by omega)], rfl, rfl⟩
      · skip
        refine v_iload_n dX2_passesLong_49 rfl ?_
        refine w_ifb_ne 57 dX2_passesLong_50 (by decide) (fun c3 => ?_) (fun c3 => ?_)
        · skip
          refine v_iconst (iI 0) dX2_passesLong_57 rfl ?_
          refine w_ei (bz false) rfl ?_
          exact v_iret dX2_passesLong_58 bz_ret (Nat.le_of_ble_eq_true rfl) (Nat.le_of_ble_eq_true rfl) ⟨by rw [decide_eq_false (fun z => z.2.2 (hb.mp c3))], rfl, rfl⟩
        · skip
          refine v_iconst (iI 1) dX2_passesLong_53 rfl ?_
          refine v_goto 58 dX2_passesLong_54 (by decide) ?_
          refine w_ei (bz true) rfl ?_
          exact v_iret dX2_passesLong_58 bz_ret (Nat.le_of_ble_eq_true rfl) (Nat.le_of_ble_eq_true rfl) ⟨by rw [decide_eq_true ⟨by omega, by omega, fun z => by rw [hb.mpr z] at c3; exact absurd c3 (by decide)⟩], rfl, rfl⟩
  refine v_aload_n dX2_passesLong_0 rfl ?_
  refine v_get fX2_13 dX2_passesLong_1 h_a (by decide) rfl ?_
  refine w_ifb_eq 29 dX2_passesLong_4 (by decide) (fun c1 => ?_) (fun c1 => ?_)
  · skip
    refine v_iconst (iI 0) dX2_passesLong_29 rfl ?_
    exact join false ⟨fun z => absurd z (by decide), fun z => by rw [c1] at z; exact absurd z.1 (by decide)⟩ _ rfl
  · skip
    refine v_aload_n dX2_passesLong_7 rfl ?_
    refine v_get fX2_16 dX2_passesLong_8 h_a (by decide) rfl ?_
    refine v_lconst (jL 1) dX2_passesLong_11 rfl ?_
    refine w_lcmp_ne 29 dX2_passesLong_12 dX2_passesLong_13 (by decide) (by omega) (by decide) (fun c2 => ?_) (fun c2 => ?_)
    · skip
      refine v_iconst (iI 0) dX2_passesLong_29 rfl ?_
      exact join false ⟨fun z => absurd z (by decide), fun z => absurd (show (sg : Int) = 1 by omega) c2⟩ _ rfl
    · skip
      refine v_aload_n dX2_passesLong_16 rfl ?_
      refine v_get fX2_20 dX2_passesLong_17 h_a (by decide) rfl ?_
      refine v_bipush (iI 63) dX2_passesLong_20 rfl ?_
      refine w_icmp_ne 29 dX2_passesLong_22 (by decide) (by omega) (by decide) (fun c3 => ?_) (fun c3 => ?_)
      · skip
        refine v_iconst (iI 0) dX2_passesLong_29 rfl ?_
        exact join false ⟨fun z => absurd z (by decide), fun z => absurd z.2.2 c3⟩ _ rfl
      · skip
        refine v_iconst (iI 1) dX2_passesLong_25 rfl ?_
        refine v_goto 30 dX2_passesLong_26 (by decide) ?_
        exact join true ⟨fun z => ⟨c1, by omega, c3⟩, fun z => rfl⟩ _ rfl
/-- the whole number nearest to the size sg 2^ex -/
def nsz (sg : Nat) (ex : Int) : Nat := if 0 ≤ ex then sg * 2 ^ ex.toNat else rne sg (-ex).toNat
def sgnd (mi : Bool) (x : Nat) : Int := cond mi (-(x : Int)) x
set_option maxHeartbeats 4000000 in
set_option maxRecDepth 100000 in
theorem p_nearestLong {d n a sg : Nat} {na mi : Bool} {ex : Int} {h : zH} (h_a : h a = oPosit na mi (sg:Nat) ex) (hd : 2 ≤ d) (hs : sg < 1073741824) (hx : -1000 ≤ ex ∧ ex ≤ 63) :
    zM yX2_nearestLong cX2_nearestLong 3 (some .long) d 0 0 [.ref a] h n (fun r h' n' => r = some (.long (jL (sgnd mi (nsz sg ex)))) ∧ n' = n ∧ h' = h) := by
  refine zM_of zyX2_nearestLong rfl (Nat.le_of_ble_eq_true rfl) (fun X hX => ?_)
  have join : (zV X (fun r h' n' => r = some (.long (jL (sgnd mi (nsz sg ex)))) ∧ n' = n ∧ h' = h) cX2_nearestLong 3 RX2 (some .long) d 0 0 23 [(0, .ref a)] [.long (jL (nsz sg ex:Nat))] h n 0 0) := by
    refine v_lstore_n (i := 1) (lv' := [(1, .long (jL (nsz sg ex:Nat))), (0, .ref a)]) dX2_nearestLong_23 rfl (by decide) rfl ?_
    refine v_aload_n dX2_nearestLong_24 rfl ?_
    refine v_get fX2_13 dX2_nearestLong_25 h_a (by decide) rfl ?_
    refine w_ifb_eq 36 dX2_nearestLong_28 (by decide) (fun c1 => ?_) (fun c1 => ?_)
    · skip
      refine v_lload_n dX2_nearestLong_36 rfl ?_
      exact v_lret dX2_nearestLong_37 trivial (Nat.le_of_ble_eq_true rfl) (Nat.le_of_ble_eq_true rfl) ⟨by rw [c1]; rfl, rfl, rfl⟩
    · skip
      refine v_lload_n dX2_nearestLong_31 rfl ?_
      refine w_lneg dX2_nearestLong_32 ?_
      refine v_goto 37 dX2_nearestLong_33 (by decide) ?_
      exact v_lret dX2_nearestLong_37 trivial (Nat.le_of_ble_eq_true rfl) (Nat.le_of_ble_eq_true rfl) ⟨by rw [c1]; rfl, rfl, rfl⟩
  refine v_aload_n dX2_nearestLong_0 rfl ?_
  refine v_cV (av := []) (st := []) zyX2_isWhole lX2_45 h_a rfl (p_isWhole (d := 1) h_a (by omega)) dX2_nearestLong_1 rfl rfl (Nat.le_of_ble_eq_true rfl) (by omega) (Nat.le_of_ble_eq_true rfl) (Nat.le_of_ble_eq_true rfl) (Or.inl (fun _ _ _ q => ZN q)) (fun r9 K1 n9 q9 => ?_)
  obtain ⟨rfl, q9n, q9h⟩ := q9
  have q9n := q9n.symm
  subst q9n
  have q9h := q9h.symm
  subst q9h
  refine w_ifb_eq 19 dX2_nearestLong_4 (by decide) (fun c1 => ?_) (fun c1 => ?_)
  · have c1 := of_decide_eq_false c1
    refine v_aload_n dX2_nearestLong_19 rfl ?_
    refine v_cV (av := []) (st := []) zyX2_nearestSize lX2_49 h_a rfl (p_nearestSize (d := 1) (t := (-ex).toNat) h_a (by decide) hs (by omega) (by omega)) dX2_nearestLong_20 rfl rfl (Nat.le_of_ble_eq_true rfl) (by omega) (Nat.le_of_ble_eq_true rfl) (Nat.le_of_ble_eq_true rfl) (Or.inl (fun _ _ _ q => ZN q)) (fun r9 K2 n9 q9 => ?_)
    obtain ⟨rfl, q9n, q9h⟩ := q9
    have q9n := q9n.symm
    subst q9n
    have q9h := q9h.symm
    subst q9h
    rw [show rne sg (-ex).toNat = nsz sg ex from by unfold nsz; rw [if_neg c1]]
    exact join
  · have c1 := of_decide_eq_true c1
    refine v_aload_n dX2_nearestLong_7 rfl ?_
    refine v_get fX2_16 dX2_nearestLong_8 h_a (by decide) rfl ?_
    refine v_aload_n dX2_nearestLong_11 rfl ?_
    refine v_get fX2_20 dX2_nearestLong_12 h_a (by decide) rfl ?_
    refine w_lshl dX2_nearestLong_15 ex.toNat (2 ^ ex.toNat) rfl (by omega) (by omega) ?_
    refine w_el (nsz sg ex:Nat) (by unfold nsz; rw [if_pos c1, ipw, Int.natCast_mul]) ?_
    refine v_goto 23 dX2_nearestLong_16 (by decide) ?_
    exact join
