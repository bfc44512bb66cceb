/-! The constructors of the House and of the reference. -/
theorem kq_X8 : Cond.classLink RX8 17 "PositHouse$Quire" ∈ ALL := ct_1 (i := 31) rfl rfl
theorem kq_X11 : Cond.classLink RX11 95 "PositHouseModel$Sum" ∈ ALL := ct_4 (i := 217) rfl rfl
theorem vu_c {f : Nat → Option Nat} {x b m : Nat} (hf : ∀ j i, f j = some i → i < m) (hm : m ≤ b + 1) : ∀ j i, va_up f x (some b) j = some i → i < b + 1 := fun j i e => by
  unfold va_up at e
  split at e
  · cases e; exact Nat.lt_succ_self _
  · exact Nat.lt_of_lt_of_le (hf j i e) hm
def wd0 : Nat → Nat := fun q => if q < 32 then 32 else 0
theorem vu_q {a b c d : Nat} (B s : Nat) (ha : a = B) (hb : b = B + s) (hc : c = B + 2 * s) (hd : d = B + 3 * s) : va_up (va_up (va_up (va_up (fun _ => none) (iI 0).toNatClampNeg (some a)) (iI 1).toNatClampNeg (some b)) (iI 2).toNatClampNeg (some c)) (iI 3).toNatClampNeg (some d) = fun k => if k < 4 then some (B + s * k) else none := by
  funext k
  rw [show (iI 0).toNatClampNeg = 0 from by decide, show (iI 1).toNatClampNeg = 1 from by decide, show (iI 2).toNatClampNeg = 2 from by decide, show (iI 3).toNatClampNeg = 3 from by decide]
  unfold va_up
  subst ha hb hc hd
  rcases (show k = 0 ∨ k = 1 ∨ k = 2 ∨ k = 3 ∨ 4 ≤ k by omega) with e | e | e | e | e
  · subst e; simp
  · subst e; simp
  · subst e; simp [Nat.mul_comm]
  · subst e; simp [Nat.mul_comm]
  · rw [if_neg (by omega), if_neg (by omega), if_neg (by omega), if_neg (by omega), if_neg (by omega)]
theorem NS_of {h : zH} {a b v : Nat} (q : ND h a b v) : NS h a b := by
  obtain ⟨u, f, h1, h2, h3, h4, -⟩ := q
  exact ⟨u, f, h1, h2, h3, h4⟩
set_option maxHeartbeats 8000000 in
set_option maxRecDepth 100000 in
theorem p_iHouse {d : Nat} {h : zH} (h_0 : h 0 = .inr (7, [.null, .null, .null, .null, .null, .null, .null, .null, .null])) (hk : zk h 1) (hd : 6 ≤ d) :
    zM yX8_init cX8_init 2 none d 46 645 [.ref 0] h 1 (fun r h' n' => r = none ∧ n' = 47 ∧ HD h' wd0 (fun _ => 0) (fun _ => 0) (fun _ => false) (fun _ => 0) 0 [] ∧ zk h' 47) := by
  refine zM_of zyX8_init rfl (Nat.le_of_ble_eq_true rfl) (fun X hX => ?_)
  have rest : ∀ H : zH, H 0 = .inr (7, [.ref 1, .ref 2, .null, .null, .null, .null, .null, .null, .null]) → H 1 = aN 32 wd0 → H 2 = aM 32 (fun _ => 0) → zk H 3 → (zV X (fun r h' n' => r = none ∧ n' = 47 ∧ HD h' wd0 (fun _ => 0) (fun _ => 0) (fun _ => false) (fun _ => 0) 0 [] ∧ zk h' 47) cX8_init 2 RX8 none d 46 645 42 [(0, .ref 0), (1, .int (iI 32))] [] H 3 2 64) := by
    intro H h_0 h_1 h_2 hk
    refine v_aload_n dX8_init_42 rfl ?_
    refine v_iconst (iI 4) dX8_init_43 rfl ?_
    refine v_newq (C1 := "PositHouse$Quire") (N := 4) (Or.inl rfl) kq_X8 (by decide) rfl (by decide) dX8_init_44 (Nat.le_of_ble_eq_true rfl) (Nat.le_of_ble_eq_true rfl) hk ⟨by repeat (first | exact zB_n | refine zB_r (by omega) ?_ | refine zB_i ?_ | refine zB_l ?_ | refine zB_z ?_), by repeat (first | exact zB_n | refine zB_r (by omega) ?_ | refine zB_i ?_ | refine zB_l ?_ | refine zB_z ?_)⟩ (fun J1 eJ1 => ?_)
    have fz : zFr [3] _ _ := zFr.put zFr.rf eJ1 (List.mem_singleton.mpr rfl)
    have h_1 := (fz 1 (by decide)).trans h_1
    have h_2 := (fz 2 (by decide)).trans h_2
    have h_0 := (fz 0 (by decide)).trans h_0
    have h_3 : J1 3 = oQarr (fun _ => none) "PositHouse$Quire" := zf_same eJ1
    have hk := zk_psh eJ1 hk (zkc_q (fun _ _ e => by cases e))
    refine v_putF (fs' := [.ref 1, .ref 2, .ref 3, .null, .null, .null, .null, .null, .null]) hX ffX8_19 dX8_init_47 h_0 (by decide) (Nat.le_of_ble_eq_true rfl) rfl rfl rfl (fun H1 eH1 => ?_)
    have h_0 : H1 0 = .inr (7, [.ref 1, .ref 2, .ref 3, .null, .null, .null, .null, .null, .null]) := zf_same eH1
    have hk := zk_put eH1 hk (zkc_o (by repeat (first | exact zB_n | refine zB_r (by omega) ?_ | refine zB_i ?_ | refine zB_l ?_ | refine zB_z ?_)))
    have fz : zFr [0] _ _ := zFr.put zFr.rf eH1 (List.mem_singleton.mpr rfl)
    have h_1 := (fz 1 (by decide)).trans h_1
    have h_2 := (fz 2 (by decide)).trans h_2
    have h_3 := (fz 3 (by decide)).trans h_3
    have hf : ∀ j i, (fun _ : Nat => (none : Option Nat)) j = some i → i < 0 := fun _ _ e => by cases e
    refine v_iconst (iI 0) dX8_init_50 rfl ?_
    refine v_istore_n (i := 1) (lv' := [(1, .int (iI 0)), (0, .ref 0)]) dX8_init_51 rfl (by decide) rfl ?_
    refine v_iload_n dX8_init_52 rfl ?_
    refine v_iconst (iI 4) dX8_init_53 rfl ?_
    refine w_icmp_ge 76 dX8_init_54 (by decide) (by decide) (by decide) (fun c0 => ?_) (fun c0 => ?_)
    · exact absurd c0 (by decide)
    · skip
      refine v_aload_n dX8_init_57 rfl ?_
      refine v_get fX8_19 dX8_init_58 h_0 (by decide) rfl ?_
      refine v_iload_n dX8_init_61 rfl ?_
      refine w_ei 0 rfl ?_
      refine v_new nX8_17 dX8_init_62 (Nat.le_of_ble_eq_true rfl) (Nat.le_of_ble_eq_true rfl) hk ⟨by repeat (first | exact zB_n | refine zB_r (by omega) ?_ | refine zB_i ?_ | refine zB_l ?_ | refine zB_z ?_), by repeat (first | exact zB_n | refine zB_r (by omega) ?_ | refine zB_i ?_ | refine zB_l ?_ | refine zB_z ?_)⟩ (fun H2 eH2 => ?_)
      have h_4 : H2 4 = .inr (3, [.null, .int (iI (bz false))]) := zf_same eH2
      have h_0 := (zf_ne eH2 (by decide)).trans h_0
      have hk := zk_psh eH2 hk (zkc_o (by repeat (first | exact zB_n | refine zB_r (by omega) ?_ | refine zB_i ?_ | refine zB_l ?_ | refine zB_z ?_)))
      have fz : zFr [4] _ _ := zFr.put zFr.rf eH2 (List.mem_singleton.mpr rfl)
      have h_1 := (fz 1 (by decide)).trans h_1
      have h_2 := (fz 2 (by decide)).trans h_2
      have h_3 := (fz 3 (by decide)).trans h_3
      refine v_dup dX8_init_65 rfl ?_
      refine v_cI (av := []) (st := [.ref 4, .int (iI 0), .ref 3]) zyX3_init lX8_23 (p_iQuire (d := 4) h_4 (by decide) hk (by decide)) dX8_init_66 rfl rfl (Nat.le_of_ble_eq_true rfl) (by omega) (Nat.le_of_ble_eq_true rfl) (Nat.le_of_ble_eq_true rfl) (Or.inr ⟨by repeat (first | exact zB_n | refine zB_r (by omega) ?_ | refine zB_i ?_ | refine zB_l ?_ | refine zB_z ?_), by repeat (first | exact zB_n | refine zB_r (by omega) ?_ | refine zB_i ?_ | refine zB_l ?_ | refine zB_z ?_)⟩) (fun r9 G1 n9 q9 => ?_)
      obtain ⟨rfl, q9n, w4, hk, fr9⟩ := q9
      have q9n := q9n.symm
      subst q9n
      have h_0 := (fr9 0 (by decide)).trans h_0
      have h_1 := (fr9 1 (by decide)).trans h_1
      have h_2 := (fr9 2 (by decide)).trans h_2
      have h_3 := (fr9 3 (by decide)).trans h_3
      obtain ⟨_, o4, -⟩ := id w4
      refine v_aast dX8_init_69 h_3 o4 rfl (iI_in (k := 0) (by decide) (by decide)) (fun J2 eJ2 => ?_)
      have fz : zFr [3] _ _ := zFr.put zFr.rf eJ2 (List.mem_singleton.mpr rfl)
      have h_1 := (fz 1 (by decide)).trans h_1
      have h_2 := (fz 2 (by decide)).trans h_2
      have w4 := w4.fr fz (by decide) (by decide)
      have h_0 := (fz 0 (by decide)).trans h_0
      have h_3 : J2 3 = oQarr (va_up (fun _ => none) (iI 0).toNatClampNeg (some 4)) "PositHouse$Quire" := zf_same eJ2
      have hf := vu_c (x := (iI 0).toNatClampNeg) (b := 4) hf (by decide)
      have hk := zk_put eJ2 hk (zkc_q (fun j i e => Nat.lt_of_lt_of_le (hf j i e) (by decide)))
      refine w_iinc (lv' := [(1, .int (iI (0 + 1))), (0, .ref 0)]) dX8_init_70 rfl (by decide) rfl ?_
      refine w_sub (lv2 := [(0, .ref 0), (1, .int (iI (0 + 1)))]) [1, 0] rfl ?_
      refine v_goto 52 dX8_init_73 (by decide) ?_
      refine v_iload_n dX8_init_52 rfl ?_
      refine v_iconst (iI 4) dX8_init_53 rfl ?_
      refine w_icmp_ge 76 dX8_init_54 (by decide) (by omega) (by decide) (fun c1 => ?_) (fun c1 => ?_)
      · exact absurd c1 (by decide)
      · skip
        refine v_aload_n dX8_init_57 rfl ?_
        refine v_get fX8_19 dX8_init_58 h_0 (by decide) rfl ?_
        refine v_iload_n dX8_init_61 rfl ?_
        refine w_ei 1 rfl ?_
        refine v_new nX8_17 dX8_init_62 (Nat.le_of_ble_eq_true rfl) (Nat.le_of_ble_eq_true rfl) hk ⟨by repeat (first | exact zB_n | refine zB_r (by omega) ?_ | refine zB_i ?_ | refine zB_l ?_ | refine zB_z ?_), by repeat (first | exact zB_n | refine zB_r (by omega) ?_ | refine zB_i ?_ | refine zB_l ?_ | refine zB_z ?_)⟩ (fun H3 eH3 => ?_)
        have h_6 : H3 6 = .inr (3, [.null, .int (iI (bz false))]) := zf_same eH3
        have h_0 := (zf_ne eH3 (by decide)).trans h_0
        have hk := zk_psh eH3 hk (zkc_o (by repeat (first | exact zB_n | refine zB_r (by omega) ?_ | refine zB_i ?_ | refine zB_l ?_ | refine zB_z ?_)))
        have fz : zFr [6] _ _ := zFr.put zFr.rf eH3 (List.mem_singleton.mpr rfl)
        have h_1 := (fz 1 (by decide)).trans h_1
        have h_2 := (fz 2 (by decide)).trans h_2
        have h_3 := (fz 3 (by decide)).trans h_3
        have w4 := w4.fr fz (by decide) (by decide)
        refine v_dup dX8_init_65 rfl ?_
        refine v_cI (av := []) (st := [.ref 6, .int (iI 1), .ref 3]) zyX3_init lX8_23 (p_iQuire (d := 4) h_6 (by decide) hk (by decide)) dX8_init_66 rfl rfl (Nat.le_of_ble_eq_true rfl) (by omega) (Nat.le_of_ble_eq_true rfl) (Nat.le_of_ble_eq_true rfl) (Or.inr ⟨by repeat (first | exact zB_n | refine zB_r (by omega) ?_ | refine zB_i ?_ | refine zB_l ?_ | refine zB_z ?_), by repeat (first | exact zB_n | refine zB_r (by omega) ?_ | refine zB_i ?_ | refine zB_l ?_ | refine zB_z ?_)⟩) (fun r9 G2 n9 q9 => ?_)
        obtain ⟨rfl, q9n, w6, hk, fr9⟩ := q9
        have q9n := q9n.symm
        subst q9n
        have h_0 := (fr9 0 (by decide)).trans h_0
        have h_1 := (fr9 1 (by decide)).trans h_1
        have h_2 := (fr9 2 (by decide)).trans h_2
        have h_3 := (fr9 3 (by decide)).trans h_3
        have w4 := w4.fr fr9 (by decide) (by decide)
        obtain ⟨_, o6, -⟩ := id w6
        refine v_aast dX8_init_69 h_3 o6 rfl (iI_in (k := 1) (by decide) (by decide)) (fun J3 eJ3 => ?_)
        have fz : zFr [3] _ _ := zFr.put zFr.rf eJ3 (List.mem_singleton.mpr rfl)
        have h_1 := (fz 1 (by decide)).trans h_1
        have h_2 := (fz 2 (by decide)).trans h_2
        have w4 := w4.fr fz (by decide) (by decide)
        have w6 := w6.fr fz (by decide) (by decide)
        have h_0 := (fz 0 (by decide)).trans h_0
        have h_3 : J3 3 = oQarr (va_up (va_up (fun _ => none) (iI 0).toNatClampNeg (some 4)) (iI 1).toNatClampNeg (some 6)) "PositHouse$Quire" := zf_same eJ3
        have hf := vu_c (x := (iI 1).toNatClampNeg) (b := 6) hf (by decide)
        have hk := zk_put eJ3 hk (zkc_q (fun j i e => Nat.lt_of_lt_of_le (hf j i e) (by decide)))
        refine w_iinc (lv' := [(1, .int (iI ((0 + 1) + 1))), (0, .ref 0)]) dX8_init_70 rfl (by decide) rfl ?_
        refine w_sub (lv2 := [(0, .ref 0), (1, .int (iI ((0 + 1) + 1)))]) [1, 0] rfl ?_
        refine v_goto 52 dX8_init_73 (by decide) ?_
        refine v_iload_n dX8_init_52 rfl ?_
        refine v_iconst (iI 4) dX8_init_53 rfl ?_
        refine w_icmp_ge 76 dX8_init_54 (by decide) (by omega) (by decide) (fun c2 => ?_) (fun c2 => ?_)
        · exact absurd c2 (by decide)
        · skip
          refine v_aload_n dX8_init_57 rfl ?_
          refine v_get fX8_19 dX8_init_58 h_0 (by decide) rfl ?_
          refine v_iload_n dX8_init_61 rfl ?_
          refine w_ei 2 rfl ?_
          refine v_new nX8_17 dX8_init_62 (Nat.le_of_ble_eq_true rfl) (Nat.le_of_ble_eq_true rfl) hk ⟨by repeat (first | exact zB_n | refine zB_r (by omega) ?_ | refine zB_i ?_ | refine zB_l ?_ | refine zB_z ?_), by repeat (first | exact zB_n | refine zB_r (by omega) ?_ | refine zB_i ?_ | refine zB_l ?_ | refine zB_z ?_)⟩ (fun H4 eH4 => ?_)
          have h_8 : H4 8 = .inr (3, [.null, .int (iI (bz false))]) := zf_same eH4
          have h_0 := (zf_ne eH4 (by decide)).trans h_0
          have hk := zk_psh eH4 hk (zkc_o (by repeat (first | exact zB_n | refine zB_r (by omega) ?_ | refine zB_i ?_ | refine zB_l ?_ | refine zB_z ?_)))
          have fz : zFr [8] _ _ := zFr.put zFr.rf eH4 (List.mem_singleton.mpr rfl)
          have h_1 := (fz 1 (by decide)).trans h_1
          have h_2 := (fz 2 (by decide)).trans h_2
          have h_3 := (fz 3 (by decide)).trans h_3
          have w4 := w4.fr fz (by decide) (by decide)
          have w6 := w6.fr fz (by decide) (by decide)
          refine v_dup dX8_init_65 rfl ?_
          refine v_cI (av := []) (st := [.ref 8, .int (iI 2), .ref 3]) zyX3_init lX8_23 (p_iQuire (d := 4) h_8 (by decide) hk (by decide)) dX8_init_66 rfl rfl (Nat.le_of_ble_eq_true rfl) (by omega) (Nat.le_of_ble_eq_true rfl) (Nat.le_of_ble_eq_true rfl) (Or.inr ⟨by repeat (first | exact zB_n | refine zB_r (by omega) ?_ | refine zB_i ?_ | refine zB_l ?_ | refine zB_z ?_), by repeat (first | exact zB_n | refine zB_r (by omega) ?_ | refine zB_i ?_ | refine zB_l ?_ | refine zB_z ?_)⟩) (fun r9 G3 n9 q9 => ?_)
          obtain ⟨rfl, q9n, w8, hk, fr9⟩ := q9
          have q9n := q9n.symm
          subst q9n
          have h_0 := (fr9 0 (by decide)).trans h_0
          have h_1 := (fr9 1 (by decide)).trans h_1
          have h_2 := (fr9 2 (by decide)).trans h_2
          have h_3 := (fr9 3 (by decide)).trans h_3
          have w4 := w4.fr fr9 (by decide) (by decide)
          have w6 := w6.fr fr9 (by decide) (by decide)
          obtain ⟨_, o8, -⟩ := id w8
          refine v_aast dX8_init_69 h_3 o8 rfl (iI_in (k := 2) (by decide) (by decide)) (fun J4 eJ4 => ?_)
          have fz : zFr [3] _ _ := zFr.put zFr.rf eJ4 (List.mem_singleton.mpr rfl)
          have h_1 := (fz 1 (by decide)).trans h_1
          have h_2 := (fz 2 (by decide)).trans h_2
          have w4 := w4.fr fz (by decide) (by decide)
          have w6 := w6.fr fz (by decide) (by decide)
          have w8 := w8.fr fz (by decide) (by decide)
          have h_0 := (fz 0 (by decide)).trans h_0
          have h_3 : J4 3 = oQarr (va_up (va_up (va_up (fun _ => none) (iI 0).toNatClampNeg (some 4)) (iI 1).toNatClampNeg (some 6)) (iI 2).toNatClampNeg (some 8)) "PositHouse$Quire" := zf_same eJ4
          have hf := vu_c (x := (iI 2).toNatClampNeg) (b := 8) hf (by decide)
          have hk := zk_put eJ4 hk (zkc_q (fun j i e => Nat.lt_of_lt_of_le (hf j i e) (by decide)))
          refine w_iinc (lv' := [(1, .int (iI (((0 + 1) + 1) + 1))), (0, .ref 0)]) dX8_init_70 rfl (by decide) rfl ?_
          refine w_sub (lv2 := [(0, .ref 0), (1, .int (iI (((0 + 1) + 1) + 1)))]) [1, 0] rfl ?_
          refine v_goto 52 dX8_init_73 (by decide) ?_
          refine v_iload_n dX8_init_52 rfl ?_
          refine v_iconst (iI 4) dX8_init_53 rfl ?_
          refine w_icmp_ge 76 dX8_init_54 (by decide) (by omega) (by decide) (fun c3 => ?_) (fun c3 => ?_)
          · exact absurd c3 (by decide)
          · skip
            refine v_aload_n dX8_init_57 rfl ?_
            refine v_get fX8_19 dX8_init_58 h_0 (by decide) rfl ?_
            refine v_iload_n dX8_init_61 rfl ?_
            refine w_ei 3 rfl ?_
            refine v_new nX8_17 dX8_init_62 (Nat.le_of_ble_eq_true rfl) (Nat.le_of_ble_eq_true rfl) hk ⟨by repeat (first | exact zB_n | refine zB_r (by omega) ?_ | refine zB_i ?_ | refine zB_l ?_ | refine zB_z ?_), by repeat (first | exact zB_n | refine zB_r (by omega) ?_ | refine zB_i ?_ | refine zB_l ?_ | refine zB_z ?_)⟩ (fun H5 eH5 => ?_)
            have h_10 : H5 10 = .inr (3, [.null, .int (iI (bz false))]) := zf_same eH5
            have h_0 := (zf_ne eH5 (by decide)).trans h_0
            have hk := zk_psh eH5 hk (zkc_o (by repeat (first | exact zB_n | refine zB_r (by omega) ?_ | refine zB_i ?_ | refine zB_l ?_ | refine zB_z ?_)))
            have fz : zFr [10] _ _ := zFr.put zFr.rf eH5 (List.mem_singleton.mpr rfl)
            have h_1 := (fz 1 (by decide)).trans h_1
            have h_2 := (fz 2 (by decide)).trans h_2
            have h_3 := (fz 3 (by decide)).trans h_3
            have w4 := w4.fr fz (by decide) (by decide)
            have w6 := w6.fr fz (by decide) (by decide)
            have w8 := w8.fr fz (by decide) (by decide)
            refine v_dup dX8_init_65 rfl ?_
            refine v_cI (av := []) (st := [.ref 10, .int (iI 3), .ref 3]) zyX3_init lX8_23 (p_iQuire (d := 4) h_10 (by decide) hk (by decide)) dX8_init_66 rfl rfl (Nat.le_of_ble_eq_true rfl) (by omega) (Nat.le_of_ble_eq_true rfl) (Nat.le_of_ble_eq_true rfl) (Or.inr ⟨by repeat (first | exact zB_n | refine zB_r (by omega) ?_ | refine zB_i ?_ | refine zB_l ?_ | refine zB_z ?_), by repeat (first | exact zB_n | refine zB_r (by omega) ?_ | refine zB_i ?_ | refine zB_l ?_ | refine zB_z ?_)⟩) (fun r9 G4 n9 q9 => ?_)
            obtain ⟨rfl, q9n, w10, hk, fr9⟩ := q9
            have q9n := q9n.symm
            subst q9n
            have h_0 := (fr9 0 (by decide)).trans h_0
            have h_1 := (fr9 1 (by decide)).trans h_1
            have h_2 := (fr9 2 (by decide)).trans h_2
            have h_3 := (fr9 3 (by decide)).trans h_3
            have w4 := w4.fr fr9 (by decide) (by decide)
            have w6 := w6.fr fr9 (by decide) (by decide)
            have w8 := w8.fr fr9 (by decide) (by decide)
            obtain ⟨_, o10, -⟩ := id w10
            refine v_aast dX8_init_69 h_3 o10 rfl (iI_in (k := 3) (by decide) (by decide)) (fun J5 eJ5 => ?_)
            have fz : zFr [3] _ _ := zFr.put zFr.rf eJ5 (List.mem_singleton.mpr rfl)
            have h_1 := (fz 1 (by decide)).trans h_1
            have h_2 := (fz 2 (by decide)).trans h_2
            have w4 := w4.fr fz (by decide) (by decide)
            have w6 := w6.fr fz (by decide) (by decide)
            have w8 := w8.fr fz (by decide) (by decide)
            have w10 := w10.fr fz (by decide) (by decide)
            have h_0 := (fz 0 (by decide)).trans h_0
            have h_3 : J5 3 = oQarr (va_up (va_up (va_up (va_up (fun _ => none) (iI 0).toNatClampNeg (some 4)) (iI 1).toNatClampNeg (some 6)) (iI 2).toNatClampNeg (some 8)) (iI 3).toNatClampNeg (some 10)) "PositHouse$Quire" := zf_same eJ5
            have hf := vu_c (x := (iI 3).toNatClampNeg) (b := 10) hf (by decide)
            have hk := zk_put eJ5 hk (zkc_q (fun j i e => Nat.lt_of_lt_of_le (hf j i e) (by decide)))
            refine w_iinc (lv' := [(1, .int (iI ((((0 + 1) + 1) + 1) + 1))), (0, .ref 0)]) dX8_init_70 rfl (by decide) rfl ?_
            refine w_sub (lv2 := [(0, .ref 0), (1, .int (iI ((((0 + 1) + 1) + 1) + 1)))]) [1, 0] rfl ?_
            refine v_goto 52 dX8_init_73 (by decide) ?_
            refine v_iload_n dX8_init_52 rfl ?_
            refine v_iconst (iI 4) dX8_init_53 rfl ?_
            refine w_icmp_ge 76 dX8_init_54 (by decide) (by omega) (by decide) (fun c4 => ?_) (fun c4 => ?_)
            · skip
              refine v_aload_n dX8_init_76 rfl ?_
              refine v_new nX8_24 dX8_init_77 (Nat.le_of_ble_eq_true rfl) (Nat.le_of_ble_eq_true rfl) hk ⟨by repeat (first | exact zB_n | refine zB_r (by omega) ?_ | refine zB_i ?_ | refine zB_l ?_ | refine zB_z ?_), by repeat (first | exact zB_n | refine zB_r (by omega) ?_ | refine zB_i ?_ | refine zB_l ?_ | refine zB_z ?_)⟩ (fun H6 eH6 => ?_)
              have h_12 : H6 12 = oPosit false false 0 0 := zf_same eH6
              have h_0 := (zf_ne eH6 (by decide)).trans h_0
              have hk := zk_psh eH6 hk (zkc_o (by repeat (first | exact zB_n | refine zB_r (by omega) ?_ | refine zB_i ?_ | refine zB_l ?_ | refine zB_z ?_)))
              have fz : zFr [12] _ _ := zFr.put zFr.rf eH6 (List.mem_singleton.mpr rfl)
              have h_1 := (fz 1 (by decide)).trans h_1
              have h_2 := (fz 2 (by decide)).trans h_2
              have h_3 := (fz 3 (by decide)).trans h_3
              have w4 := w4.fr fz (by decide) (by decide)
              have w6 := w6.fr fz (by decide) (by decide)
              have w8 := w8.fr fz (by decide) (by decide)
              have w10 := w10.fr fz (by decide) (by decide)
              refine v_dup dX8_init_80 rfl ?_
              refine v_cI (av := []) (st := [.ref 12, .ref 0]) zyX2_init lX8_26 (p_iPosit (d := 4) (by decide)) dX8_init_81 rfl rfl (Nat.le_of_ble_eq_true rfl) (by omega) (Nat.le_of_ble_eq_true rfl) (Nat.le_of_ble_eq_true rfl) (Or.inl (fun _ _ _ q => ZN q)) (fun r9 K1 n9 q9 => ?_)
              obtain ⟨rfl, q9n, q9h⟩ := q9
              have q9n := q9n.symm
              subst q9n
              have q9h := q9h.symm
              subst q9h
              refine v_putF (fs' := [.ref 1, .ref 2, .ref 3, .ref 12, .null, .null, .null, .null, .null]) hX ffX8_27 dX8_init_84 h_0 (by decide) (Nat.le_of_ble_eq_true rfl) rfl rfl rfl (fun H7 eH7 => ?_)
              have h_0 : H7 0 = .inr (7, [.ref 1, .ref 2, .ref 3, .ref 12, .null, .null, .null, .null, .null]) := zf_same eH7
              have hk := zk_put eH7 hk (zkc_o (by repeat (first | exact zB_n | refine zB_r (by omega) ?_ | refine zB_i ?_ | refine zB_l ?_ | refine zB_z ?_)))
              have fz : zFr [0] _ _ := zFr.put zFr.rf eH7 (List.mem_singleton.mpr rfl)
              have h_1 := (fz 1 (by decide)).trans h_1
              have h_2 := (fz 2 (by decide)).trans h_2
              have h_3 := (fz 3 (by decide)).trans h_3
              have w4 := w4.fr fz (by decide) (by decide)
              have w6 := w6.fr fz (by decide) (by decide)
              have w8 := w8.fr fz (by decide) (by decide)
              have w10 := w10.fr fz (by decide) (by decide)
              have h_12 := (fz 12 (by decide)).trans h_12
              refine v_aload_n dX8_init_87 rfl ?_
              refine v_new nX8_24 dX8_init_88 (Nat.le_of_ble_eq_true rfl) (Nat.le_of_ble_eq_true rfl) hk ⟨by repeat (first | exact zB_n | refine zB_r (by omega) ?_ | refine zB_i ?_ | refine zB_l ?_ | refine zB_z ?_), by repeat (first | exact zB_n | refine zB_r (by omega) ?_ | refine zB_i ?_ | refine zB_l ?_ | refine zB_z ?_)⟩ (fun H8 eH8 => ?_)
              have h_13 : H8 13 = oPosit false false 0 0 := zf_same eH8
              have h_0 := (zf_ne eH8 (by decide)).trans h_0
              have hk := zk_psh eH8 hk (zkc_o (by repeat (first | exact zB_n | refine zB_r (by omega) ?_ | refine zB_i ?_ | refine zB_l ?_ | refine zB_z ?_)))
              have fz : zFr [13] _ _ := zFr.put zFr.rf eH8 (List.mem_singleton.mpr rfl)
              have h_1 := (fz 1 (by decide)).trans h_1
              have h_2 := (fz 2 (by decide)).trans h_2
              have h_3 := (fz 3 (by decide)).trans h_3
              have w4 := w4.fr fz (by decide) (by decide)
              have w6 := w6.fr fz (by decide) (by decide)
              have w8 := w8.fr fz (by decide) (by decide)
              have w10 := w10.fr fz (by decide) (by decide)
              have h_12 := (fz 12 (by decide)).trans h_12
              refine v_dup dX8_init_91 rfl ?_
              refine v_cI (av := []) (st := [.ref 13, .ref 0]) zyX2_init lX8_26 (p_iPosit (d := 4) (by decide)) dX8_init_92 rfl rfl (Nat.le_of_ble_eq_true rfl) (by omega) (Nat.le_of_ble_eq_true rfl) (Nat.le_of_ble_eq_true rfl) (Or.inl (fun _ _ _ q => ZN q)) (fun r9 K2 n9 q9 => ?_)
              obtain ⟨rfl, q9n, q9h⟩ := q9
              have q9n := q9n.symm
              subst q9n
              have q9h := q9h.symm
              subst q9h
              refine v_putF (fs' := [.ref 1, .ref 2, .ref 3, .ref 12, .ref 13, .null, .null, .null, .null]) hX ffX8_31 dX8_init_95 h_0 (by decide) (Nat.le_of_ble_eq_true rfl) rfl rfl rfl (fun H9 eH9 => ?_)
              have h_0 : H9 0 = .inr (7, [.ref 1, .ref 2, .ref 3, .ref 12, .ref 13, .null, .null, .null, .null]) := zf_same eH9
              have hk := zk_put eH9 hk (zkc_o (by repeat (first | exact zB_n | refine zB_r (by omega) ?_ | refine zB_i ?_ | refine zB_l ?_ | refine zB_z ?_)))
              have fz : zFr [0] _ _ := zFr.put zFr.rf eH9 (List.mem_singleton.mpr rfl)
              have h_1 := (fz 1 (by decide)).trans h_1
              have h_2 := (fz 2 (by decide)).trans h_2
              have h_3 := (fz 3 (by decide)).trans h_3
              have w4 := w4.fr fz (by decide) (by decide)
              have w6 := w6.fr fz (by decide) (by decide)
              have w8 := w8.fr fz (by decide) (by decide)
              have w10 := w10.fr fz (by decide) (by decide)
              have h_12 := (fz 12 (by decide)).trans h_12
              have h_13 := (fz 13 (by decide)).trans h_13
              refine v_aload_n dX8_init_98 rfl ?_
              refine v_new nX8_24 dX8_init_99 (Nat.le_of_ble_eq_true rfl) (Nat.le_of_ble_eq_true rfl) hk ⟨by repeat (first | exact zB_n | refine zB_r (by omega) ?_ | refine zB_i ?_ | refine zB_l ?_ | refine zB_z ?_), by repeat (first | exact zB_n | refine zB_r (by omega) ?_ | refine zB_i ?_ | refine zB_l ?_ | refine zB_z ?_)⟩ (fun H10 eH10 => ?_)
              have h_14 : H10 14 = oPosit false false 0 0 := zf_same eH10
              have h_0 := (zf_ne eH10 (by decide)).trans h_0
              have hk := zk_psh eH10 hk (zkc_o (by repeat (first | exact zB_n | refine zB_r (by omega) ?_ | refine zB_i ?_ | refine zB_l ?_ | refine zB_z ?_)))
              have fz : zFr [14] _ _ := zFr.put zFr.rf eH10 (List.mem_singleton.mpr rfl)
              have h_1 := (fz 1 (by decide)).trans h_1
              have h_2 := (fz 2 (by decide)).trans h_2
              have h_3 := (fz 3 (by decide)).trans h_3
              have w4 := w4.fr fz (by decide) (by decide)
              have w6 := w6.fr fz (by decide) (by decide)
              have w8 := w8.fr fz (by decide) (by decide)
              have w10 := w10.fr fz (by decide) (by decide)
              have h_12 := (fz 12 (by decide)).trans h_12
              have h_13 := (fz 13 (by decide)).trans h_13
              refine v_dup dX8_init_102 rfl ?_
              refine v_cI (av := []) (st := [.ref 14, .ref 0]) zyX2_init lX8_26 (p_iPosit (d := 4) (by decide)) dX8_init_103 rfl rfl (Nat.le_of_ble_eq_true rfl) (by omega) (Nat.le_of_ble_eq_true rfl) (Nat.le_of_ble_eq_true rfl) (Or.inl (fun _ _ _ q => ZN q)) (fun r9 K3 n9 q9 => ?_)
              obtain ⟨rfl, q9n, q9h⟩ := q9
              have q9n := q9n.symm
              subst q9n
              have q9h := q9h.symm
              subst q9h
              refine v_putF (fs' := [.ref 1, .ref 2, .ref 3, .ref 12, .ref 13, .ref 14, .null, .null, .null]) hX ffX8_34 dX8_init_106 h_0 (by decide) (Nat.le_of_ble_eq_true rfl) rfl rfl rfl (fun H11 eH11 => ?_)
              have h_0 : H11 0 = .inr (7, [.ref 1, .ref 2, .ref 3, .ref 12, .ref 13, .ref 14, .null, .null, .null]) := zf_same eH11
              have hk := zk_put eH11 hk (zkc_o (by repeat (first | exact zB_n | refine zB_r (by omega) ?_ | refine zB_i ?_ | refine zB_l ?_ | refine zB_z ?_)))
              have fz : zFr [0] _ _ := zFr.put zFr.rf eH11 (List.mem_singleton.mpr rfl)
              have h_1 := (fz 1 (by decide)).trans h_1
              have h_2 := (fz 2 (by decide)).trans h_2
              have h_3 := (fz 3 (by decide)).trans h_3
              have w4 := w4.fr fz (by decide) (by decide)
              have w6 := w6.fr fz (by decide) (by decide)
              have w8 := w8.fr fz (by decide) (by decide)
              have w10 := w10.fr fz (by decide) (by decide)
              have h_12 := (fz 12 (by decide)).trans h_12
              have h_13 := (fz 13 (by decide)).trans h_13
              have h_14 := (fz 14 (by decide)).trans h_14
              refine v_aload_n dX8_init_109 rfl ?_
              refine v_new nX8_37 dX8_init_110 (Nat.le_of_ble_eq_true rfl) (Nat.le_of_ble_eq_true rfl) hk ⟨by repeat (first | exact zB_n | refine zB_r (by omega) ?_ | refine zB_i ?_ | refine zB_l ?_ | refine zB_z ?_), by repeat (first | exact zB_n | refine zB_r (by omega) ?_ | refine zB_i ?_ | refine zB_l ?_ | refine zB_z ?_)⟩ (fun H12 eH12 => ?_)
              have h_15 : H12 15 = .inr (0, [.null, .null, .null, .null, .null]) := zf_same eH12
              have h_0 := (zf_ne eH12 (by decide)).trans h_0
              have hk := zk_psh eH12 hk (zkc_o (by repeat (first | exact zB_n | refine zB_r (by omega) ?_ | refine zB_i ?_ | refine zB_l ?_ | refine zB_z ?_)))
              have fz : zFr [15] _ _ := zFr.put zFr.rf eH12 (List.mem_singleton.mpr rfl)
              have h_1 := (fz 1 (by decide)).trans h_1
              have h_2 := (fz 2 (by decide)).trans h_2
              have h_3 := (fz 3 (by decide)).trans h_3
              have w4 := w4.fr fz (by decide) (by decide)
              have w6 := w6.fr fz (by decide) (by decide)
              have w8 := w8.fr fz (by decide) (by decide)
              have w10 := w10.fr fz (by decide) (by decide)
              have h_12 := (fz 12 (by decide)).trans h_12
              have h_13 := (fz 13 (by decide)).trans h_13
              have h_14 := (fz 14 (by decide)).trans h_14
              refine v_dup dX8_init_113 rfl ?_
              refine v_cI (av := []) (st := [.ref 15, .ref 0]) zyX0_init lX8_39 (p_iActs (d := 4) h_15 hk (by decide)) dX8_init_114 rfl rfl (Nat.le_of_ble_eq_true rfl) (by omega) (Nat.le_of_ble_eq_true rfl) (Nat.le_of_ble_eq_true rfl) (Or.inr ⟨by repeat (first | exact zB_n | refine zB_r (by omega) ?_ | refine zB_i ?_ | refine zB_l ?_ | refine zB_z ?_), by repeat (first | exact zB_n | refine zB_r (by omega) ?_ | refine zB_i ?_ | refine zB_l ?_ | refine zB_z ?_)⟩) (fun r9 G5 n9 q9 => ?_)
              obtain ⟨rfl, q9n, hA, hk, fr9⟩ := q9
              have q9n := q9n.symm
              subst q9n
              have h_0 := (fr9 0 (by decide)).trans h_0
              have h_1 := (fr9 1 (by decide)).trans h_1
              have h_2 := (fr9 2 (by decide)).trans h_2
              have h_3 := (fr9 3 (by decide)).trans h_3
              have w4 := w4.fr fr9 (by decide) (by decide)
              have w6 := w6.fr fr9 (by decide) (by decide)
              have w8 := w8.fr fr9 (by decide) (by decide)
              have w10 := w10.fr fr9 (by decide) (by decide)
              have h_12 := (fr9 12 (by decide)).trans h_12
              have h_13 := (fr9 13 (by decide)).trans h_13
              have h_14 := (fr9 14 (by decide)).trans h_14
              refine v_putF (fs' := [.ref 1, .ref 2, .ref 3, .ref 12, .ref 13, .ref 14, .ref 15, .null, .null]) hX ffX8_40 dX8_init_117 h_0 (by decide) (Nat.le_of_ble_eq_true rfl) rfl rfl rfl (fun H13 eH13 => ?_)
              have h_0 : H13 0 = .inr (7, [.ref 1, .ref 2, .ref 3, .ref 12, .ref 13, .ref 14, .ref 15, .null, .null]) := zf_same eH13
              have hk := zk_put eH13 hk (zkc_o (by repeat (first | exact zB_n | refine zB_r (by omega) ?_ | refine zB_i ?_ | refine zB_l ?_ | refine zB_z ?_)))
              have fz : zFr [0] _ _ := zFr.put zFr.rf eH13 (List.mem_singleton.mpr rfl)
              have h_1 := (fz 1 (by decide)).trans h_1
              have h_2 := (fz 2 (by decide)).trans h_2
              have h_3 := (fz 3 (by decide)).trans h_3
              have w4 := w4.fr fz (by decide) (by decide)
              have w6 := w6.fr fz (by decide) (by decide)
              have w8 := w8.fr fz (by decide) (by decide)
              have w10 := w10.fr fz (by decide) (by decide)
              have h_12 := (fz 12 (by decide)).trans h_12
              have h_13 := (fz 13 (by decide)).trans h_13
              have h_14 := (fz 14 (by decide)).trans h_14
              have hA := hA.fr fz (by decide)
              refine v_aload_n dX8_init_120 rfl ?_
              refine v_new nX8_44 dX8_init_121 (Nat.le_of_ble_eq_true rfl) (Nat.le_of_ble_eq_true rfl) hk ⟨by repeat (first | exact zB_n | refine zB_r (by omega) ?_ | refine zB_i ?_ | refine zB_l ?_ | refine zB_z ?_), by repeat (first | exact zB_n | refine zB_r (by omega) ?_ | refine zB_i ?_ | refine zB_l ?_ | refine zB_z ?_)⟩ (fun H14 eH14 => ?_)
              have h_30 : H14 30 = .inr (5, [.null, .int (iI 0), .null, .int (iI 0), .int (iI 0), .int (iI 0), .int (iI (bz false)), .int (iI (bz false))]) := zf_same eH14
              have h_0 := (zf_ne eH14 (by decide)).trans h_0
              have hk := zk_psh eH14 hk (zkc_o (by repeat (first | exact zB_n | refine zB_r (by omega) ?_ | refine zB_i ?_ | refine zB_l ?_ | refine zB_z ?_)))
              have fz : zFr [30] _ _ := zFr.put zFr.rf eH14 (List.mem_singleton.mpr rfl)
              have h_1 := (fz 1 (by decide)).trans h_1
              have h_2 := (fz 2 (by decide)).trans h_2
              have h_3 := (fz 3 (by decide)).trans h_3
              have w4 := w4.fr fz (by decide) (by decide)
              have w6 := w6.fr fz (by decide) (by decide)
              have w8 := w8.fr fz (by decide) (by decide)
              have w10 := w10.fr fz (by decide) (by decide)
              have h_12 := (fz 12 (by decide)).trans h_12
              have h_13 := (fz 13 (by decide)).trans h_13
              have h_14 := (fz 14 (by decide)).trans h_14
              have hA := hA.fr fz (by decide)
              refine v_dup dX8_init_124 rfl ?_
              refine v_cI (av := []) (st := [.ref 30, .ref 0]) zyX6_init lX8_46 (p_iTape (d := 4) h_30 hk (by decide)) dX8_init_125 rfl rfl (Nat.le_of_ble_eq_true rfl) (by omega) (Nat.le_of_ble_eq_true rfl) (Nat.le_of_ble_eq_true rfl) (Or.inr ⟨by repeat (first | exact zB_n | refine zB_r (by omega) ?_ | refine zB_i ?_ | refine zB_l ?_ | refine zB_z ?_), by repeat (first | exact zB_n | refine zB_r (by omega) ?_ | refine zB_i ?_ | refine zB_l ?_ | refine zB_z ?_)⟩) (fun r9 G6 n9 q9 => ?_)
              obtain ⟨rfl, q9n, hT, hk, fr9⟩ := q9
              have q9n := q9n.symm
              subst q9n
              have h_0 := (fr9 0 (by decide)).trans h_0
              have h_1 := (fr9 1 (by decide)).trans h_1
              have h_2 := (fr9 2 (by decide)).trans h_2
              have h_3 := (fr9 3 (by decide)).trans h_3
              have w4 := w4.fr fr9 (by decide) (by decide)
              have w6 := w6.fr fr9 (by decide) (by decide)
              have w8 := w8.fr fr9 (by decide) (by decide)
              have w10 := w10.fr fr9 (by decide) (by decide)
              have h_12 := (fr9 12 (by decide)).trans h_12
              have h_13 := (fr9 13 (by decide)).trans h_13
              have h_14 := (fr9 14 (by decide)).trans h_14
              have hA := hA.fr fr9 (by decide)
              refine v_putF (fs' := [.ref 1, .ref 2, .ref 3, .ref 12, .ref 13, .ref 14, .ref 15, .ref 30, .null]) hX ffX8_47 dX8_init_128 h_0 (by decide) (Nat.le_of_ble_eq_true rfl) rfl rfl rfl (fun H15 eH15 => ?_)
              have h_0 : H15 0 = .inr (7, [.ref 1, .ref 2, .ref 3, .ref 12, .ref 13, .ref 14, .ref 15, .ref 30, .null]) := zf_same eH15
              have hk := zk_put eH15 hk (zkc_o (by repeat (first | exact zB_n | refine zB_r (by omega) ?_ | refine zB_i ?_ | refine zB_l ?_ | refine zB_z ?_)))
              have fz : zFr [0] _ _ := zFr.put zFr.rf eH15 (List.mem_singleton.mpr rfl)
              have h_1 := (fz 1 (by decide)).trans h_1
              have h_2 := (fz 2 (by decide)).trans h_2
              have h_3 := (fz 3 (by decide)).trans h_3
              have w4 := w4.fr fz (by decide) (by decide)
              have w6 := w6.fr fz (by decide) (by decide)
              have w8 := w8.fr fz (by decide) (by decide)
              have w10 := w10.fr fz (by decide) (by decide)
              have h_12 := (fz 12 (by decide)).trans h_12
              have h_13 := (fz 13 (by decide)).trans h_13
              have h_14 := (fz 14 (by decide)).trans h_14
              have hA := hA.fr fz (by decide)
              have hT := hT.fr fz (by decide)
              refine v_aload_n dX8_init_131 rfl ?_
              refine v_new nX8_51 dX8_init_132 (Nat.le_of_ble_eq_true rfl) (Nat.le_of_ble_eq_true rfl) hk ⟨by repeat (first | exact zB_n | refine zB_r (by omega) ?_ | refine zB_i ?_ | refine zB_l ?_ | refine zB_z ?_), by repeat (first | exact zB_n | refine zB_r (by omega) ?_ | refine zB_i ?_ | refine zB_l ?_ | refine zB_z ?_)⟩ (fun H16 eH16 => ?_)
              have h_34 : H16 34 = .inr (1, [.null, .null, .null, .null, .null, .null, .null, .int (iI (bz false)), .int (iI (bz false)), .int (iI (bz false)), .int (iI 0), .int (iI 0)]) := zf_same eH16
              have h_0 := (zf_ne eH16 (by decide)).trans h_0
              have hk := zk_psh eH16 hk (zkc_o (by repeat (first | exact zB_n | refine zB_r (by omega) ?_ | refine zB_i ?_ | refine zB_l ?_ | refine zB_z ?_)))
              have fz : zFr [34] _ _ := zFr.put zFr.rf eH16 (List.mem_singleton.mpr rfl)
              have h_1 := (fz 1 (by decide)).trans h_1
              have h_2 := (fz 2 (by decide)).trans h_2
              have h_3 := (fz 3 (by decide)).trans h_3
              have w4 := w4.fr fz (by decide) (by decide)
              have w6 := w6.fr fz (by decide) (by decide)
              have w8 := w8.fr fz (by decide) (by decide)
              have w10 := w10.fr fz (by decide) (by decide)
              have h_12 := (fz 12 (by decide)).trans h_12
              have h_13 := (fz 13 (by decide)).trans h_13
              have h_14 := (fz 14 (by decide)).trans h_14
              have hA := hA.fr fz (by decide)
              have hT := hT.fr fz (by decide)
              refine v_dup dX8_init_135 rfl ?_
              refine v_cI (av := []) (st := [.ref 34, .ref 0]) zyX1_init lX8_53 (p_iPage (d := 4) h_34 hk (by decide)) dX8_init_136 rfl rfl (Nat.le_of_ble_eq_true rfl) (by omega) (Nat.le_of_ble_eq_true rfl) (Nat.le_of_ble_eq_true rfl) (Or.inr ⟨by repeat (first | exact zB_n | refine zB_r (by omega) ?_ | refine zB_i ?_ | refine zB_l ?_ | refine zB_z ?_), by repeat (first | exact zB_n | refine zB_r (by omega) ?_ | refine zB_i ?_ | refine zB_l ?_ | refine zB_z ?_)⟩) (fun r9 G7 n9 q9 => ?_)
              obtain ⟨rfl, q9n, hG, hk, fr9⟩ := q9
              have q9n := q9n.symm
              subst q9n
              have h_0 := (fr9 0 (by decide)).trans h_0
              have h_1 := (fr9 1 (by decide)).trans h_1
              have h_2 := (fr9 2 (by decide)).trans h_2
              have h_3 := (fr9 3 (by decide)).trans h_3
              have w4 := w4.fr fr9 (by decide) (by decide)
              have w6 := w6.fr fr9 (by decide) (by decide)
              have w8 := w8.fr fr9 (by decide) (by decide)
              have w10 := w10.fr fr9 (by decide) (by decide)
              have h_12 := (fr9 12 (by decide)).trans h_12
              have h_13 := (fr9 13 (by decide)).trans h_13
              have h_14 := (fr9 14 (by decide)).trans h_14
              have hA := hA.fr fr9 (by decide)
              have hT := hT.fr fr9 (by decide)
              refine v_putF (fs' := [.ref 1, .ref 2, .ref 3, .ref 12, .ref 13, .ref 14, .ref 15, .ref 30, .ref 34]) hX ffX8_54 dX8_init_139 h_0 (by decide) (Nat.le_of_ble_eq_true rfl) rfl rfl rfl (fun H17 eH17 => ?_)
              have h_0 : H17 0 = oHouse 1 2 3 12 13 14 15 30 34 := zf_same eH17
              have hk := zk_put eH17 hk (zkc_o (by repeat (first | exact zB_n | refine zB_r (by omega) ?_ | refine zB_i ?_ | refine zB_l ?_ | refine zB_z ?_)))
              have fz : zFr [0] _ _ := zFr.put zFr.rf eH17 (List.mem_singleton.mpr rfl)
              have h_1 := (fz 1 (by decide)).trans h_1
              have h_2 := (fz 2 (by decide)).trans h_2
              have h_3 := (fz 3 (by decide)).trans h_3
              have w4 := w4.fr fz (by decide) (by decide)
              have w6 := w6.fr fz (by decide) (by decide)
              have w8 := w8.fr fz (by decide) (by decide)
              have w10 := w10.fr fz (by decide) (by decide)
              have h_12 := (fz 12 (by decide)).trans h_12
              have h_13 := (fz 13 (by decide)).trans h_13
              have h_14 := (fz 14 (by decide)).trans h_14
              have hA := hA.fr fz (by decide)
              have hT := hT.fr fz (by decide)
              have hG := hG.fr fz (by decide)
              rw [vu_q 4 2 rfl rfl rfl rfl] at h_3
              exact v_vret dX8_init_142 trivial (Nat.le_of_ble_eq_true rfl) (Nat.le_of_ble_eq_true rfl) ⟨rfl, rfl, ⟨h_0, h_1, h_2, h_3, (fun k hk9 => match k, hk9 with | 0, _ => q512_0.symm ▸ w4 | 1, _ => q512_0.symm ▸ w6 | 2, _ => q512_0.symm ▸ w8 | 3, _ => q512_0.symm ▸ w10 | k + 4, q => absurd q (by omega)), ⟨⟨_, _, _, _, h_12⟩, ⟨_, _, _, _, h_13⟩, ⟨_, _, _, _, h_14⟩⟩, hA, hT, hG⟩, hk⟩
            · exact absurd c4 (by decide)
  have loop : ∀ (j i : Nat) (H : zH) (f : Nat → Nat), i + j = 32 → (∀ q, f q = if q < i then 32 else 0) → H 0 = .inr (7, [.ref 1, .ref 2, .null, .null, .null, .null, .null, .null, .null]) → H 1 = aN 32 f → H 2 = aM 32 (fun _ => 0) → zk H 3 → (zV X (fun r h' n' => r = none ∧ n' = 47 ∧ HD h' wd0 (fun _ => 0) (fun _ => 0) (fun _ => false) (fun _ => 0) 0 [] ∧ zk h' 47) cX8_init 2 RX8 none d 46 645 22 [(0, .ref 0), (1, .int (iI (i:Nat)))] [] H 3 2 64) := by
    intro j
    induction j with
    | zero =>
      intro i H f hj hf h_0 h_1 h_2 hk
      have hi : i = 32 := by omega
      subst hi
      have ef : f = wd0 := funext hf
      subst ef
      refine v_iload_n dX8_init_22 rfl ?_
      refine v_bipush (iI 32) dX8_init_23 rfl ?_
      refine w_icmp_ge 42 dX8_init_25 (by decide) (by omega) (by decide) (fun c1 => ?_) (fun c1 => ?_)
      · exact rest H h_0 h_1 h_2 hk
      · exact absurd c1 (by decide)
    | succ j ih =>
      intro i H f hj hf h_0 h_1 h_2 hk
      refine v_iload_n dX8_init_22 rfl ?_
      refine v_bipush (iI 32) dX8_init_23 rfl ?_
      refine w_icmp_ge 42 dX8_init_25 (by decide) (by omega) (by decide) (fun c1 => ?_) (fun c1 => ?_)
      · exact absurd c1 (by omega)
      · skip
        refine v_aload_n dX8_init_28 rfl ?_
        refine v_get fX8_9 dX8_init_29 h_0 (by decide) rfl ?_
        refine v_iload_n dX8_init_32 rfl ?_
        refine v_bipush (iI 32) dX8_init_33 rfl ?_
        refine w_nast dX8_init_35 h_1 i (by omega) (by omega) (by decide) 32 rfl (fun H1 eH1 => ?_)
        obtain ⟨F1, eF1⟩ : ∃ zz9, zz9 = zup f i 32 := ⟨_, rfl⟩
        rw [← eF1] at eH1
        have h_1 : H1 1 = aN 32 F1 := zf_same eH1
        have h_0 := (zf_ne eH1 (by decide)).trans h_0
        have h_2 := (zf_ne eH1 (by decide)).trans h_2
        have hk := zk_put eH1 hk zkc_i
        refine w_iinc (lv' := [(1, .int (iI ((i:Nat) + 1))), (0, .ref 0)]) dX8_init_36 rfl (by decide) rfl ?_
        refine w_sub (lv2 := [(0, .ref 0), (1, .int (iI ((i:Nat) + 1)))]) [1, 0] rfl ?_
        refine v_goto 22 dX8_init_39 (by decide) ?_
        have e1 : (i : Int) + 1 = ((i + 1 : Nat) : Int) := by omega
        rw [e1]
        exact ih (i + 1) H1 F1 (by omega) (fun q => by rw [eF1]; unfold zup; rw [hf q]; by_cases e : q = i <;> simp [e]; by_cases e2 : q < i <;> simp [e2] <;> omega) h_0 h_1 h_2 hk
  refine v_aload_n dX8_init_0 rfl ?_
  refine v_objInit oX8_1 dX8_init_1 (by omega) (Nat.le_of_ble_eq_true rfl) ?_
  refine v_aload_n dX8_init_4 rfl ?_
  refine v_bipush (iI 32) dX8_init_5 rfl ?_
  refine v_newa (ty := .int) (a0 := (32, .inl (fun _ => iI ((0 : Nat) : Int)))) (N := 32) ac_int rfl (fun _ => rfl) (fun _ => rfl) (by decide) rfl (by decide) dX8_init_7 (Nat.le_of_ble_eq_true rfl) (Nat.le_of_ble_eq_true rfl) hk ⟨by repeat (first | exact zB_n | refine zB_r (by omega) ?_ | refine zB_i ?_ | refine zB_l ?_ | refine zB_z ?_), by repeat (first | exact zB_n | refine zB_r (by omega) ?_ | refine zB_i ?_ | refine zB_l ?_ | refine zB_z ?_)⟩ (fun H1 eH1 => ?_)
  have h_1 : H1 1 = aN 32 (fun _ => 0) := zf_same eH1
  have h_0 := (zf_ne eH1 (by decide)).trans h_0
  have hk := zk_psh eH1 hk zkc_i
  refine v_putF (fs' := [.ref 1, .null, .null, .null, .null, .null, .null, .null, .null]) hX ffX8_9 dX8_init_9 h_0 (by decide) (Nat.le_of_ble_eq_true rfl) rfl rfl rfl (fun H2 eH2 => ?_)
  have h_0 : H2 0 = .inr (7, [.ref 1, .null, .null, .null, .null, .null, .null, .null, .null]) := zf_same eH2
  have h_1 := (zf_ne eH2 (by decide)).trans h_1
  have hk := zk_put eH2 hk (zkc_o (by repeat (first | exact zB_n | refine zB_r (by omega) ?_ | refine zB_i ?_ | refine zB_l ?_ | refine zB_z ?_)))
  refine v_aload_n dX8_init_12 rfl ?_
  refine v_bipush (iI 32) dX8_init_13 rfl ?_
  refine v_newa (ty := .long) (a0 := (32, .inr (.inl (fun _ => jL ((0 : Nat) : Int))))) (N := 32) ac_long rfl (fun _ => rfl) (fun _ => rfl) (by decide) rfl (by decide) dX8_init_15 (Nat.le_of_ble_eq_true rfl) (Nat.le_of_ble_eq_true rfl) hk ⟨by repeat (first | exact zB_n | refine zB_r (by omega) ?_ | refine zB_i ?_ | refine zB_l ?_ | refine zB_z ?_), by repeat (first | exact zB_n | refine zB_r (by omega) ?_ | refine zB_i ?_ | refine zB_l ?_ | refine zB_z ?_)⟩ (fun H3 eH3 => ?_)
  have h_2 : H3 2 = aM 32 (fun _ => 0) := zf_same eH3
  have h_0 := (zf_ne eH3 (by decide)).trans h_0
  have h_1 := (zf_ne eH3 (by decide)).trans h_1
  have hk := zk_psh eH3 hk zkc_l
  refine v_putF (fs' := [.ref 1, .ref 2, .null, .null, .null, .null, .null, .null, .null]) hX ffX8_13 dX8_init_17 h_0 (by decide) (Nat.le_of_ble_eq_true rfl) rfl rfl rfl (fun H4 eH4 => ?_)
  have h_0 : H4 0 = .inr (7, [.ref 1, .ref 2, .null, .null, .null, .null, .null, .null, .null]) := zf_same eH4
  have h_1 := (zf_ne eH4 (by decide)).trans h_1
  have h_2 := (zf_ne eH4 (by decide)).trans h_2
  have hk := zk_put eH4 hk (zkc_o (by repeat (first | exact zB_n | refine zB_r (by omega) ?_ | refine zB_i ?_ | refine zB_l ?_ | refine zB_z ?_)))
  refine v_iconst (iI 0) dX8_init_20 rfl ?_
  refine v_istore_n (i := 1) (lv' := [(1, .int (iI 0)), (0, .ref 0)]) dX8_init_21 rfl (by decide) rfl ?_
  refine w_sub (lv2 := [(0, .ref 0), (1, .int (iI 0))]) [1, 0] rfl ?_
  exact loop 32 0 H4 _ (by decide) (fun q => by simp) h_0 h_1 h_2 hk
