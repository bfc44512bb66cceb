/-! The House: turns, texts -/
section
variable {X : zX} {Post : zP} {cc : ByteArray} {nL : Nat} {own : String} {ret : Option FieldType} {d MC MS pc : Nat} {lv : List (Nat × Value)} {st : List Value} {h : zH} {n cells slots : Nat}
theorem v_tabIn {x : Int32} {dflt lo hi off : Int} {offs : Array Int} {len : Nat} (tgt : Nat) (hd : decode cc pc = .ok (.tableswitch dflt lo hi offs, len)) (h1 : ¬ x.toInt < lo) (h2 : ¬ hi < x.toInt) (ho : offs[(x.toInt - lo).toNat]? = some off) (ht : (pc : Int) + off = (tgt : Int)) (k : zV X Post cc nL own ret d MC MS tgt lv st h n cells slots) : zV X Post cc nL own ret d MC MS pc lv (.int x :: st) h n cells slots := by
  obtain ⟨p, l, e, R, s, m, args, below, meth, c, Q, D, A, σ0, n0, G⟩ := X
  intro C hn0 σ cy tys ls H locs h0 hO hl
  exact lv_tableIn C.1 C.2.1 hd h1 h2 ho ht (k C hn0 σ cy tys ls H locs h0 hO hl)
theorem v_tabOut {x : Int32} {dflt lo hi : Int} {offs : Array Int} {len : Nat} (tgt : Nat) (hd : decode cc pc = .ok (.tableswitch dflt lo hi offs, len)) (h1 : x.toInt < lo ∨ hi < x.toInt) (ht : (pc : Int) + dflt = (tgt : Int)) (k : zV X Post cc nL own ret d MC MS tgt lv st h n cells slots) : zV X Post cc nL own ret d MC MS pc lv (.int x :: st) h n cells slots := by
  obtain ⟨p, l, e, R, s, m, args, below, meth, c, Q, D, A, σ0, n0, G⟩ := X
  intro C hn0 σ cy tys ls H locs h0 hO hl
  exact lv_tableOut C.1 C.2.1 hd h1 ht (k C hn0 σ cy tys ls H locs h0 hO hl)
theorem w_tabIn {x dflt lo hi off : Int} {offs : Array Int} {len : Nat} (tgt : Nat) (hd : decode cc pc = .ok (.tableswitch dflt lo hi offs, len)) (hx : iR x) (h1 : lo ≤ x) (h2 : x ≤ hi) (ho : offs[(x - lo).toNat]? = some off) (ht : (pc : Int) + off = (tgt : Int)) (k : zV X Post cc nL own ret d MC MS tgt lv st h n cells slots) : zV X Post cc nL own ret d MC MS pc lv (.int (iI x) :: st) h n cells slots :=
  v_tabIn tgt hd (by rw [iI_val hx]; omega) (by rw [iI_val hx]; omega) (by rw [iI_val hx]; exact ho) ht k
theorem w_tabOut {x dflt lo hi : Int} {offs : Array Int} {len : Nat} (tgt : Nat) (hd : decode cc pc = .ok (.tableswitch dflt lo hi offs, len)) (hx : iR x) (h1 : x < lo ∨ hi < x) (ht : (pc : Int) + dflt = (tgt : Int)) (k : zV X Post cc nL own ret d MC MS tgt lv st h n cells slots) : zV X Post cc nL own ret d MC MS pc lv (.int (iI x) :: st) h n cells slots :=
  v_tabOut tgt hd (by rw [iI_val hx]; exact h1) ht k
end
theorem ng_m {p w : Nat} (hp : p < 2 ^ w) : (-(p : Int)) % (2 : Int) ^ w = (((2 ^ w - p) % 2 ^ w : Nat) : Int) := by
  rw [ipw]
  have e : (-(p : Int)) = ((2 ^ w - p : Nat) : Int) + ((2 ^ w : Nat) : Int) * (-1) := by omega
  rw [e, Int.add_mul_emod_self_left, Int.natCast_emod]
theorem tn_0 {p w : Nat} (hw : 3 ≤ w ∧ w ≤ 32) : mtn w p 0 = (2 ^ w - p) % 2 ^ w := by
  unfold mtn
  rw [if_neg (by decide), if_neg (by decide)]
  by_cases c : p = 2 ^ (w - 1)
  · rw [if_pos c]
    have : 2 ^ w = 2 * 2 ^ (w - 1) := pw2 (by omega)
    have := p_pos (w - 1)
    rw [Nat.mod_eq_of_lt (by omega)]
    omega
  · rw [if_neg c, if_pos rfl]
theorem tn_1 {p w s : Nat} {x : Int} (hw : 3 ≤ w ∧ w ≤ 32) (hp : p < 2 ^ w) (d1 : pd p w s x) : mtn w p 1 = cond (decide (2 ^ (w - 1) < p)) ((2 ^ w - p) % 2 ^ w) p := by
  unfold mtn
  rw [if_neg (by decide), if_neg (by decide)]
  by_cases c : p = 2 ^ (w - 1)
  · rw [if_pos c, decide_eq_false (by omega)]; rfl
  · have v := (pd_v hw hp c d1).2.1
    rw [if_neg c, if_neg (by decide), if_pos rfl]
    by_cases z : pvI p w < 0
    · have := p_pos (w - 1)
      rw [if_pos z, decide_eq_true (v.mp z), cond_true, Nat.mod_eq_of_lt (by have := v.mp z; omega)]
    · rw [if_neg z, decide_eq_false (fun q => z (v.mpr q)), cond_false]
theorem tn_6 {p w : Nat} : ((p : Int) + 1) % (2 : Int) ^ w = ((mtn w p 6 : Nat) : Int) := by
  unfold mtn
  rw [if_pos rfl, ipw, Int.natCast_emod]; rfl
theorem tn_7 {p w : Nat} : ((p : Int) - 1) % (2 : Int) ^ w = ((mtn w p 7 : Nat) : Int) := by
  unfold mtn
  rw [if_neg (by decide), if_pos rfl, ipw]
  have := p_pos w
  have e : ((p : Int) - 1) = ((p + (2 ^ w - 1) : Nat) : Int) + ((2 ^ w : Nat) : Int) * (-1) := by omega
  rw [e, Int.add_mul_emod_self_left, Int.natCast_emod]
set_option maxHeartbeats 8000000 in
set_option maxRecDepth 100000 in
theorem p_HturnedWhole {d n w p m s1 : Nat} {na mi : Bool} {x1 : Int} {h : zH} (h_0 : h 0 = oHouse 1 2 3 12 13 14 15 30 34) (h_12 : h 12 = oPosit na mi (s1:Nat) x1) (emi : decide (2 ^ (w - 1) < p) = mi) (hw : 3 ≤ w ∧ w ≤ 32) (hp : p < 2 ^ w) (d1 : pd p w s1 x1) (hm : 3 ≤ m ∧ m ≤ 5) (hd : 3 ≤ d) :
    zM yX8_turnedWhole cX8_turnedWhole 8 (some .long) d 0 0 [.ref 0, .long (jL (p:Nat)), .int (iI (w:Nat)), .int (iI (m:Nat))] h n (fun r9 h' n' => r9 = some (.long (jL (mtn w p m : Nat))) ∧ n' = n ∧ h' = h) := by
  have b1 := pd_b hw hp d1
  refine zM_of zyX8_turnedWhole rfl (Nat.le_of_ble_eq_true rfl) (fun X hX => ?_)
  refine v_aload_n dX8_turnedWhole_0 rfl ?_
  refine v_get fX8_27 dX8_turnedWhole_1 h_0 (by decide) rfl ?_
  refine v_cV (av := []) (st := []) zyX2_isWhole lX8_250 h_12 rfl (p_isWhole (d := 2) h_12 (by omega)) dX8_turnedWhole_4 rfl rfl (Nat.le_of_ble_eq_true rfl) (by omega) (Nat.le_of_ble_eq_true rfl) (Nat.le_of_ble_eq_true rfl) (Or.inl (fun _ _ _ q => ZN q)) (fun r9 K1 n9 q9 => ?_)
  obtain ⟨rfl, q9n, q9h⟩ := q9
  have q9n := q9n.symm
  subst q9n
  have q9h := q9h.symm
  subst q9h
  refine w_ifb_eq 12 dX8_turnedWhole_7 (by decide) (fun c1 => ?_) (fun c1 => ?_)
  · have hx : x1 < 0 := by have := of_decide_eq_false c1; omega
    have tf := tn_f hm hw hp d1 hx
    rw [emi] at tf
    obtain ⟨t, et⟩ : ∃ t : Nat, x1 = -(t : Int) := ⟨(-x1).toNat, by omega⟩
    have et2 : (-x1).toNat = t := by omega
    rw [et2] at tf
    have hl : s1 / 2 ^ t ≤ s1 := Nat.div_le_self _ _
    refine v_iload dX8_turnedWhole_12 rfl ?_
    refine v_iconst (iI 3) dX8_turnedWhole_14 rfl ?_
    refine w_icmp_ne 30 dX8_turnedWhole_15 (by decide) (by omega) (by decide) (fun c2 => ?_) (fun c2 => ?_)
    · have j56 : ∀ b9 : Bool, b9 = (decide (m = 4) == mi) → (zV X (fun r9 h' n' => r9 = some (.long (jL (mtn w p m : Nat))) ∧ n' = n ∧ h' = h) cX8_turnedWhole 8 RX8 (some .long) d 0 0 56 [(0, .ref 0), (1, .long (jL (p:Nat))), (3, .int (iI (w:Nat))), (4, .int (iI (m:Nat)))] [.int (iI (bz b9))] h n 0 0) := by
        intro b9 eb
        rw [if_neg (by omega), ← eb] at tf
        refine v_istore (i := 7) (lv' := [(7, .int (iI (bz b9))), (0, .ref 0), (1, .long (jL (p:Nat))), (3, .int (iI (w:Nat))), (4, .int (iI (m:Nat)))]) dX8_turnedWhole_56 (by decide) rfl ?_
        refine v_aload_n dX8_turnedWhole_58 rfl ?_
        refine v_get fX8_27 dX8_turnedWhole_59 h_0 (by decide) rfl ?_
        refine v_cV (av := []) (st := []) zyX2_sizeDown lX8_256 h_12 rfl (p_sizeDown (d := 2) h_12 (by omega) et (by omega)) dX8_turnedWhole_62 rfl rfl (Nat.le_of_ble_eq_true rfl) (by omega) (Nat.le_of_ble_eq_true rfl) (Nat.le_of_ble_eq_true rfl) (Or.inl (fun _ _ _ q => ZN q)) (fun r9 K1 n9 q9 => ?_)
        obtain ⟨rfl, q9n, q9h⟩ := q9
        have q9n := q9n.symm
        subst q9n
        have q9h := q9h.symm
        subst q9h
        refine v_iload dX8_turnedWhole_65 rfl ?_
        refine w_ifb_eq 74 dX8_turnedWhole_67 (by decide) (fun c3 => ?_) (fun c3 => ?_)
        · rw [c3] at tf
          refine v_iconst (iI 0) dX8_turnedWhole_74 rfl ?_
          refine w_i2l dX8_turnedWhole_75 (by decide) ?_
          refine w_ladd dX8_turnedWhole_76 ?_
          refine v_lstore (i := 5) (lv' := [(5, .long (jL ((s1 / 2 ^ t : Nat) + 0))), (7, .int (iI (bz b9))), (0, .ref 0), (1, .long (jL (p:Nat))), (3, .int (iI (w:Nat))), (4, .int (iI (m:Nat)))]) dX8_turnedWhole_77 (by decide) rfl ?_
          refine v_iload_n dX8_turnedWhole_79 rfl ?_
          refine v_aload_n dX8_turnedWhole_80 rfl ?_
          refine v_get fX8_27 dX8_turnedWhole_81 h_0 (by decide) rfl ?_
          refine v_get fX8_242 dX8_turnedWhole_84 h_12 (by decide) rfl ?_
          refine v_lload dX8_turnedWhole_87 rfl ?_
          refine v_iconst (iI 0) dX8_turnedWhole_89 rfl ?_
          refine v_iconst (iI 0) dX8_turnedWhole_90 rfl ?_
          refine w_ei (bz false) rfl ?_
          refine v_cS (av := [.int (iI (w:Nat)), .int (iI (bz mi)), .long (jL ((s1 / 2 ^ t : Nat) + 0)), .int (iI 0), .int (iI (bz false))]) (st := []) zyX4_ofLong lX8_243 (p_ofLong (d := 2) (by decide) hw (S := s1 / 2 ^ t) (by omega) (by decide)) dX8_turnedWhole_91 rfl rfl (Nat.le_of_ble_eq_true rfl) (by omega) (Nat.le_of_ble_eq_true rfl) (Nat.le_of_ble_eq_true rfl) (Or.inl (fun _ _ _ q => ZN q)) (fun r9 K2 n9 q9 => ?_)
          obtain ⟨rfl, q9n, q9h⟩ := q9
          have q9n := q9n.symm
          subst q9n
          have q9h := q9h.symm
          subst q9h
          refine w_el (mtn w p m : Nat) (congrArg Nat.cast tf.symm) ?_
          exact v_lret dX8_turnedWhole_94 trivial (Nat.le_of_ble_eq_true rfl) (Nat.le_of_ble_eq_true rfl) ⟨rfl, rfl, rfl⟩
        · rw [c3] at tf
          refine v_iconst (iI 1) dX8_turnedWhole_70 rfl ?_
          refine v_goto 75 dX8_turnedWhole_71 (by decide) ?_
          refine w_i2l dX8_turnedWhole_75 (by decide) ?_
          refine w_ladd dX8_turnedWhole_76 ?_
          refine w_el (s1 / 2 ^ t + 1 : Nat) (by omega) ?_
          refine v_lstore (i := 5) (lv' := [(5, .long (jL (s1 / 2 ^ t + 1 : Nat))), (7, .int (iI (bz b9))), (0, .ref 0), (1, .long (jL (p:Nat))), (3, .int (iI (w:Nat))), (4, .int (iI (m:Nat)))]) dX8_turnedWhole_77 (by decide) rfl ?_
          refine v_iload_n dX8_turnedWhole_79 rfl ?_
          refine v_aload_n dX8_turnedWhole_80 rfl ?_
          refine v_get fX8_27 dX8_turnedWhole_81 h_0 (by decide) rfl ?_
          refine v_get fX8_242 dX8_turnedWhole_84 h_12 (by decide) rfl ?_
          refine v_lload dX8_turnedWhole_87 rfl ?_
          refine v_iconst (iI 0) dX8_turnedWhole_89 rfl ?_
          refine v_iconst (iI 0) dX8_turnedWhole_90 rfl ?_
          refine w_ei (bz false) rfl ?_
          refine v_cS (av := [.int (iI (w:Nat)), .int (iI (bz mi)), .long (jL (s1 / 2 ^ t + 1 : Nat)), .int (iI 0), .int (iI (bz false))]) (st := []) zyX4_ofLong lX8_243 (p_ofLong (d := 2) (by decide) hw (S := s1 / 2 ^ t + 1) (by omega) (by decide)) dX8_turnedWhole_91 rfl rfl (Nat.le_of_ble_eq_true rfl) (by omega) (Nat.le_of_ble_eq_true rfl) (Nat.le_of_ble_eq_true rfl) (Or.inl (fun _ _ _ q => ZN q)) (fun r9 K2 n9 q9 => ?_)
          obtain ⟨rfl, q9n, q9h⟩ := q9
          have q9n := q9n.symm
          subst q9n
          have q9h := q9h.symm
          subst q9h
          refine w_el (mtn w p m : Nat) (congrArg Nat.cast tf.symm) ?_
          exact v_lret dX8_turnedWhole_94 trivial (Nat.le_of_ble_eq_true rfl) (Nat.le_of_ble_eq_true rfl) ⟨rfl, rfl, rfl⟩
      refine v_iload dX8_turnedWhole_30 rfl ?_
      refine v_iconst (iI 4) dX8_turnedWhole_32 rfl ?_
      refine w_icmp_ne 40 dX8_turnedWhole_33 (by decide) (by omega) (by decide) (fun c4 => ?_) (fun c4 => ?_)
      · skip
        refine v_iconst (iI 0) dX8_turnedWhole_40 rfl ?_
        refine v_aload_n dX8_turnedWhole_41 rfl ?_
        refine v_get fX8_27 dX8_turnedWhole_42 h_0 (by decide) rfl ?_
        refine v_get fX8_242 dX8_turnedWhole_45 h_12 (by decide) rfl ?_
        refine w_icmp_ne 55 dX8_turnedWhole_48 (by decide) (by decide) (bz_r _) (fun c5 => ?_) (fun c5 => ?_)
        · skip
          refine v_iconst (iI 0) dX8_turnedWhole_55 rfl ?_
          refine w_ei (bz false) rfl ?_
          exact j56 false (by rw [decide_eq_false (by omega)]; cases mi <;> first | rfl | exact absurd c5 (by decide))
        · skip
          refine v_iconst (iI 1) dX8_turnedWhole_51 rfl ?_
          refine v_goto 56 dX8_turnedWhole_52 (by decide) ?_
          refine w_ei (bz true) rfl ?_
          exact j56 true (by rw [decide_eq_false (by omega)]; cases mi <;> first | rfl | exact absurd c5 (by decide))
      · skip
        refine v_iconst (iI 1) dX8_turnedWhole_36 rfl ?_
        refine v_goto 41 dX8_turnedWhole_37 (by decide) ?_
        refine v_aload_n dX8_turnedWhole_41 rfl ?_
        refine v_get fX8_27 dX8_turnedWhole_42 h_0 (by decide) rfl ?_
        refine v_get fX8_242 dX8_turnedWhole_45 h_12 (by decide) rfl ?_
        refine w_icmp_ne 55 dX8_turnedWhole_48 (by decide) (by decide) (bz_r _) (fun c5 => ?_) (fun c5 => ?_)
        · skip
          refine v_iconst (iI 0) dX8_turnedWhole_55 rfl ?_
          refine w_ei (bz false) rfl ?_
          exact j56 false (by rw [decide_eq_true (by omega)]; cases mi <;> first | rfl | exact absurd c5 (by decide))
        · skip
          refine v_iconst (iI 1) dX8_turnedWhole_51 rfl ?_
          refine v_goto 56 dX8_turnedWhole_52 (by decide) ?_
          refine w_ei (bz true) rfl ?_
          exact j56 true (by rw [decide_eq_true (by omega)]; cases mi <;> first | rfl | exact absurd c5 (by decide))
    · rw [if_pos (by omega)] at tf
      have hl2 : rne s1 t ≤ s1 + 1 := by
        unfold rne
        split <;> omega
      refine v_aload_n dX8_turnedWhole_18 rfl ?_
      refine v_get fX8_27 dX8_turnedWhole_19 h_0 (by decide) rfl ?_
      refine v_cV (av := []) (st := []) zyX2_nearestSize lX8_253 h_12 rfl (p_nearestSize (d := 2) h_12 (by decide) (by omega) et (by omega)) dX8_turnedWhole_22 rfl rfl (Nat.le_of_ble_eq_true rfl) (by omega) (Nat.le_of_ble_eq_true rfl) (Nat.le_of_ble_eq_true rfl) (Or.inl (fun _ _ _ q => ZN q)) (fun r9 K2 n9 q9 => ?_)
      obtain ⟨rfl, q9n, q9h⟩ := q9
      have q9n := q9n.symm
      subst q9n
      have q9h := q9h.symm
      subst q9h
      refine v_lstore (i := 5) (lv' := [(5, .long (jL (rne s1 t : Nat))), (0, .ref 0), (1, .long (jL (p:Nat))), (3, .int (iI (w:Nat))), (4, .int (iI (m:Nat)))]) dX8_turnedWhole_25 (by decide) rfl ?_
      refine v_goto 79 dX8_turnedWhole_27 (by decide) ?_
      refine v_iload_n dX8_turnedWhole_79 rfl ?_
      refine v_aload_n dX8_turnedWhole_80 rfl ?_
      refine v_get fX8_27 dX8_turnedWhole_81 h_0 (by decide) rfl ?_
      refine v_get fX8_242 dX8_turnedWhole_84 h_12 (by decide) rfl ?_
      refine v_lload dX8_turnedWhole_87 rfl ?_
      refine v_iconst (iI 0) dX8_turnedWhole_89 rfl ?_
      refine v_iconst (iI 0) dX8_turnedWhole_90 rfl ?_
      refine w_ei (bz false) rfl ?_
      refine v_cS (av := [.int (iI (w:Nat)), .int (iI (bz mi)), .long (jL (rne s1 t : Nat)), .int (iI 0), .int (iI (bz false))]) (st := []) zyX4_ofLong lX8_243 (p_ofLong (d := 2) (by decide) hw (S := rne s1 t) (by omega) (by decide)) dX8_turnedWhole_91 rfl rfl (Nat.le_of_ble_eq_true rfl) (by omega) (Nat.le_of_ble_eq_true rfl) (Nat.le_of_ble_eq_true rfl) (Or.inl (fun _ _ _ q => ZN q)) (fun r9 K3 n9 q9 => ?_)
      obtain ⟨rfl, q9n, q9h⟩ := q9
      have q9n := q9n.symm
      subst q9n
      have q9h := q9h.symm
      subst q9h
      refine w_el (mtn w p m : Nat) (congrArg Nat.cast tf.symm) ?_
      exact v_lret dX8_turnedWhole_94 trivial (Nat.le_of_ble_eq_true rfl) (Nat.le_of_ble_eq_true rfl) ⟨rfl, rfl, rfl⟩
  · have hx : 0 ≤ x1 := of_decide_eq_true c1
    refine v_lload_n dX8_turnedWhole_10 rfl ?_
    refine w_el (mtn w p m : Nat) (congrArg Nat.cast (tn_w hm hw hp d1 hx).symm) ?_
    exact v_lret dX8_turnedWhole_11 trivial (Nat.le_of_ble_eq_true rfl) (Nat.le_of_ble_eq_true rfl) ⟨rfl, rfl, rfl⟩
set_option maxHeartbeats 8000000 in
set_option maxRecDepth 100000 in
theorem p_Hturned {d n w p m : Nat} {h : zH} (h_0 : h 0 = oHouse 1 2 3 12 13 14 15 30 34) (hp12 : IP h 12) (hw : 3 ≤ w ∧ w ≤ 32) (hp : p < 2 ^ w) (hm : m ≤ 7) (hd : 4 ≤ d) :
    zM yX8_turned cX8_turned 7 (some .long) d 0 0 [.ref 0, .long (jL (p:Nat)), .int (iI (w:Nat)), .int (iI (m:Nat))] h n (fun r9 h' n' => r9 = some (.long (jL (mtn w p m : Nat))) ∧ n' = n ∧ IP h' 12 ∧ zFr [12] h h') := by
  obtain ⟨na2, mi2, s2, x2, h_12⟩ := hp12
  refine zM_of zyX8_turned rfl (Nat.le_of_ble_eq_true rfl) (fun X hX => ?_)
  refine v_iload_n dX8_turned_0 rfl ?_
  refine v_cS (av := [.int (iI (w:Nat))]) (st := []) zyX4_greatest lX8_65 (p_greatest (d := 3) (by omega)) dX8_turned_1 rfl rfl (Nat.le_of_ble_eq_true rfl) (by omega) (Nat.le_of_ble_eq_true rfl) (Nat.le_of_ble_eq_true rfl) (Or.inl (fun _ _ _ q => ZN q)) (fun r9 K1 n9 q9 => ?_)
  obtain ⟨rfl, q9n, q9h⟩ := q9
  have q9n := q9n.symm
  subst q9n
  have q9h := q9h.symm
  subst q9h
  refine v_lstore (i := 5) (lv' := [(5, .long (jL (2 ^ w - 1 : Nat))), (0, .ref 0), (1, .long (jL (p:Nat))), (3, .int (iI (w:Nat))), (4, .int (iI (m:Nat)))]) dX8_turned_4 (by decide) rfl ?_
  refine v_aload_n dX8_turned_6 rfl ?_
  refine v_get fX8_27 dX8_turned_7 h_0 (by decide) rfl ?_
  refine v_lload_n dX8_turned_10 rfl ?_
  refine v_iload_n dX8_turned_11 rfl ?_
  refine v_cV (av := [.long (jL (p:Nat)), .int (iI (w:Nat))]) (st := []) zyX2_load lX8_71 h_12 rfl (p_load (d := 3) h_12 (by decide) (by omega) hp) dX8_turned_12 rfl rfl (Nat.le_of_ble_eq_true rfl) (by omega) (Nat.le_of_ble_eq_true rfl) (Nat.le_of_ble_eq_true rfl) (Or.inl (fun _ _ _ q => ZN q)) (fun r9 G1 n9 q9 => ?_)
  obtain ⟨rfl, q9n, ⟨s1, x1, h_12, d1⟩, fr9⟩ := q9
  have q9n := q9n.symm
  subst q9n
  refine w_sub (lv2 := [(0, .ref 0), (1, .long (jL (p:Nat))), (3, .int (iI (w:Nat))), (4, .int (iI (m:Nat))), (5, .long (jL (2 ^ w - 1 : Nat)))]) [1, 2, 3, 4, 0] rfl ?_
  have h_0 := (fr9 0 (by decide)).trans h_0
  have hp12 : IP G1 12 := ⟨_, _, _, _, h_12⟩
  obtain ⟨na, ena⟩ : ∃ na, decide (p = 2 ^ (w - 1)) = na := ⟨_, rfl⟩
  obtain ⟨mi, emi⟩ : ∃ mi, decide (2 ^ (w - 1) < p) = mi := ⟨_, rfl⟩
  rw [ena, emi] at h_12
  refine v_iload dX8_turned_15 rfl ?_
  rcases (show m = 0 ∨ m = 1 ∨ m = 2 ∨ m = 6 ∨ m = 7 ∨ (3 ≤ m ∧ m ≤ 5) by omega) with e0 | e1 | e2 | e6 | e7 | e3
  · refine w_tabIn 64 dX8_turned_17 ⟨by omega, by omega⟩ (by omega) (by omega) (by rw [e0]; rfl) (by decide) ?_
    refine v_lload_n dX8_turned_64 rfl ?_
    refine w_lneg dX8_turned_65 ?_
    refine v_lload dX8_turned_66 rfl ?_
    refine w_landm dX8_turned_68 w (2 ^ w) rfl (by omega) (by rw [Int.natCast_sub (p_pos w), ipw]; rfl) ?_
    refine w_el (mtn w p m : Nat) (by rw [ng_m hp, e0, tn_0 hw]) ?_
    exact v_lret dX8_turned_69 trivial (Nat.le_of_ble_eq_true rfl) (Nat.le_of_ble_eq_true rfl) ⟨rfl, rfl, hp12, fr9⟩
  · refine w_tabIn 70 dX8_turned_17 ⟨by omega, by omega⟩ (by omega) (by omega) (by rw [e1]; rfl) (by decide) ?_
    have t1 := tn_1 hw hp d1
    rw [emi] at t1
    refine v_aload_n dX8_turned_70 rfl ?_
    refine v_get fX8_27 dX8_turned_71 h_0 (by decide) rfl ?_
    refine v_get fX8_242 dX8_turned_74 h_12 (by decide) rfl ?_
    refine w_ifb_eq 88 dX8_turned_77 (by decide) (fun c1 => ?_) (fun c1 => ?_)
    · rw [c1] at t1
      refine v_lload_n dX8_turned_88 rfl ?_
      refine w_el (mtn w p m : Nat) (by rw [e1, t1]; rfl) ?_
      exact v_lret dX8_turned_89 trivial (Nat.le_of_ble_eq_true rfl) (Nat.le_of_ble_eq_true rfl) ⟨rfl, rfl, hp12, fr9⟩
    · rw [c1] at t1
      refine v_lload_n dX8_turned_80 rfl ?_
      refine w_lneg dX8_turned_81 ?_
      refine v_lload dX8_turned_82 rfl ?_
      refine w_landm dX8_turned_84 w (2 ^ w) rfl (by omega) (by rw [Int.natCast_sub (p_pos w), ipw]; rfl) ?_
      refine v_goto 89 dX8_turned_85 (by decide) ?_
      refine w_el (mtn w p m : Nat) (by rw [ng_m hp, e1, t1]; rfl) ?_
      exact v_lret dX8_turned_89 trivial (Nat.le_of_ble_eq_true rfl) (Nat.le_of_ble_eq_true rfl) ⟨rfl, rfl, hp12, fr9⟩
  · refine w_tabIn 90 dX8_turned_17 ⟨by omega, by omega⟩ (by omega) (by omega) (by rw [e2]; rfl) (by decide) ?_
    have t2 := tn_2 hw hp d1
    rw [emi] at t2
    have b1 := pd_b hw hp d1
    have same : p = 2 ^ (w - 1) ∨ s1 = 0 → (zV X (fun r9 h' n' => r9 = some (.long (jL (mtn w p m : Nat))) ∧ n' = n ∧ IP h' 12 ∧ zFr [12] h h') cX8_turned 7 RX8 (some .long) d 0 0 112 [(0, .ref 0), (1, .long (jL (p:Nat))), (3, .int (iI (w:Nat))), (4, .int (iI (m:Nat))), (5, .long (jL (2 ^ w - 1 : Nat)))] [] G1 n 0 0) := by
      intro hs
      rw [if_pos hs] at t2
      refine v_lload_n dX8_turned_112 rfl ?_
      refine v_goto 130 dX8_turned_113 (by decide) ?_
      refine w_el (mtn w p m : Nat) (by rw [e2, t2]) ?_
      exact v_lret dX8_turned_130 trivial (Nat.le_of_ble_eq_true rfl) (Nat.le_of_ble_eq_true rfl) ⟨rfl, rfl, hp12, fr9⟩
    refine v_aload_n dX8_turned_90 rfl ?_
    refine v_get fX8_27 dX8_turned_91 h_0 (by decide) rfl ?_
    refine v_get fX8_83 dX8_turned_94 h_12 (by decide) rfl ?_
    refine w_ifb_ne 112 dX8_turned_97 (by decide) (fun c1 => ?_) (fun c1 => ?_)
    · exact same (Or.inl (of_decide_eq_true (by rw [ena]; exact c1)))
    · skip
      refine v_aload_n dX8_turned_100 rfl ?_
      refine v_get fX8_27 dX8_turned_101 h_0 (by decide) rfl ?_
      refine v_get fX8_214 dX8_turned_104 h_12 (by decide) rfl ?_
      refine v_lconst (jL 0) dX8_turned_107 rfl ?_
      refine w_lcmp_ne 116 dX8_turned_108 dX8_turned_109 (by decide) (by omega) (by decide) (fun c2 => ?_) (fun c2 => ?_)
      · rw [if_neg (fun q => q.elim (fun z => by rw [decide_eq_true z] at ena; rw [← ena] at c1; exact absurd c1 (by decide)) (fun z => c2 (by omega)))] at t2
        refine v_iload_n dX8_turned_116 rfl ?_
        refine v_aload_n dX8_turned_117 rfl ?_
        refine v_get fX8_27 dX8_turned_118 h_0 (by decide) rfl ?_
        refine v_get fX8_242 dX8_turned_121 h_12 (by decide) rfl ?_
        refine v_lconst (jL 1) dX8_turned_124 rfl ?_
        refine v_iconst (iI 0) dX8_turned_125 rfl ?_
        refine v_iconst (iI 0) dX8_turned_126 rfl ?_
        refine w_ei (bz false) rfl ?_
        refine v_cS (av := [.int (iI (w:Nat)), .int (iI (bz mi)), .long (jL 1), .int (iI 0), .int (iI (bz false))]) (st := []) zyX4_ofLong lX8_243 (p_ofLong (d := 3) (by decide) hw (S := 1) (by decide) (by decide)) dX8_turned_127 rfl rfl (Nat.le_of_ble_eq_true rfl) (by omega) (Nat.le_of_ble_eq_true rfl) (Nat.le_of_ble_eq_true rfl) (Or.inl (fun _ _ _ q => ZN q)) (fun r9 K2 n9 q9 => ?_)
        obtain ⟨rfl, q9n, q9h⟩ := q9
        have q9n := q9n.symm
        subst q9n
        have q9h := q9h.symm
        subst q9h
        refine w_el (mtn w p m : Nat) (by rw [e2, t2]) ?_
        exact v_lret dX8_turned_130 trivial (Nat.le_of_ble_eq_true rfl) (Nat.le_of_ble_eq_true rfl) ⟨rfl, rfl, hp12, fr9⟩
      · exact same (Or.inr (by omega))
  · refine w_tabIn 131 dX8_turned_17 ⟨by omega, by omega⟩ (by omega) (by omega) (by rw [e6]; rfl) (by decide) ?_
    refine v_lload_n dX8_turned_131 rfl ?_
    refine v_lconst (jL 1) dX8_turned_132 rfl ?_
    refine w_ladd dX8_turned_133 ?_
    refine v_lload dX8_turned_134 rfl ?_
    refine w_landm dX8_turned_136 w (2 ^ w) rfl (by omega) (by rw [Int.natCast_sub (p_pos w), ipw]; rfl) ?_
    refine w_el (mtn w p m : Nat) (by rw [e6]; exact tn_6) ?_
    exact v_lret dX8_turned_137 trivial (Nat.le_of_ble_eq_true rfl) (Nat.le_of_ble_eq_true rfl) ⟨rfl, rfl, hp12, fr9⟩
  · refine w_tabIn 138 dX8_turned_17 ⟨by omega, by omega⟩ (by omega) (by omega) (by rw [e7]; rfl) (by decide) ?_
    refine v_lload_n dX8_turned_138 rfl ?_
    refine v_lconst (jL 1) dX8_turned_139 rfl ?_
    refine w_lsub dX8_turned_140 ?_
    refine v_lload dX8_turned_141 rfl ?_
    refine w_landm dX8_turned_143 w (2 ^ w) rfl (by omega) (by rw [Int.natCast_sub (p_pos w), ipw]; rfl) ?_
    refine w_el (mtn w p m : Nat) (by rw [e7]; exact tn_7) ?_
    exact v_lret dX8_turned_144 trivial (Nat.le_of_ble_eq_true rfl) (Nat.le_of_ble_eq_true rfl) ⟨rfl, rfl, hp12, fr9⟩
  · refine w_tabIn 145 (off := 128) dX8_turned_17 ⟨by omega, by omega⟩ (by omega) (by omega) (by rcases (show m = 3 ∨ m = 4 ∨ m = 5 by omega) with q | q | q <;> rw [q] <;> rfl) (by decide) ?_
    refine v_aload_n dX8_turned_145 rfl ?_
    refine v_lload_n dX8_turned_146 rfl ?_
    refine v_iload_n dX8_turned_147 rfl ?_
    refine v_iload dX8_turned_148 rfl ?_
    refine v_cV (av := [.long (jL (p:Nat)), .int (iI (w:Nat)), .int (iI (m:Nat))]) (st := []) zyX8_turnedWhole lX8_247 h_0 rfl (p_HturnedWhole (d := 3) h_0 h_12 emi hw hp d1 e3 (by decide)) dX8_turned_150 rfl rfl (Nat.le_of_ble_eq_true rfl) (by omega) (Nat.le_of_ble_eq_true rfl) (Nat.le_of_ble_eq_true rfl) (Or.inl (fun _ _ _ q => ZN q)) (fun r9 K2 n9 q9 => ?_)
    obtain ⟨rfl, q9n, q9h⟩ := q9
    have q9n := q9n.symm
    subst q9n
    have q9h := q9h.symm
    subst q9h
    exact v_lret dX8_turned_153 trivial (Nat.le_of_ble_eq_true rfl) (Nat.le_of_ble_eq_true rfl) ⟨rfl, rfl, hp12, fr9⟩
set_option maxHeartbeats 8000000 in
set_option maxRecDepth 100000 in
theorem p_Hturn {d n tc a3 m : Nat} {wd pt tf : Nat → Nat} {Q : Nat → Int} {qn : Nat → Bool} {L : List Nat} {h : zH} (hH : HD h wd pt Q qn tf tc L) (hPL : PL wd pt) (h3 : a3 < 32) (hm : m ≤ 7) (hd : 7 ≤ d) :
    zM yX8_turn cX8_turn 3 none d 0 0 [.ref 0, .int (iI (a3:Nat)), .int (iI (m:Nat))] h n (fun r9 h' n' => r9 = none ∧ n' = n ∧ HD h' wd (zup pt a3 (mtn (wd a3) (pt a3) m)) Q qn tf tc L ∧ zFr HOL h h') := by
  obtain ⟨h_0, h_1, h_2, h_3, hQ, ⟨hp12, hp13, hp14⟩, hA, hT, hG⟩ := id hH
  have w3 := hPL a3 h3
  refine zM_of zyX8_turn rfl (Nat.le_of_ble_eq_true rfl) (fun X hX => ?_)
  have fr : zFr HOL h h := zFr.rf
  refine v_iload_n dX8_turn_0 rfl ?_
  refine v_cS (av := [.int (iI (a3:Nat))]) (st := []) zyX8_checkPlace lX8_58 (p_ckP (d := 6) h3) dX8_turn_1 rfl rfl (Nat.le_of_ble_eq_true rfl) (by omega) (Nat.le_of_ble_eq_true rfl) (Nat.le_of_ble_eq_true rfl) (Or.inl (fun _ _ _ q => ZN q)) (fun r9 K1 n9 q9 => ?_)
  obtain ⟨rfl, q9n, q9h⟩ := q9
  have q9n := q9n.symm
  subst q9n
  have q9h := q9h.symm
  subst q9h
  refine v_iload_n dX8_turn_4 rfl ?_
  refine w_if_lt 14 dX8_turn_5 (by decide) (by omega) (fun c1 => ?_) (fun c1 => ?_)
  · exact absurd c1 (by omega)
  · skip
    refine v_iload_n dX8_turn_8 rfl ?_
    refine v_bipush (iI 7) dX8_turn_9 rfl ?_
    refine w_icmp_le 24 dX8_turn_11 (by decide) (by omega) (by decide) (fun c2 => ?_) (fun c2 => ?_)
    · skip
      refine v_aload_n dX8_turn_24 rfl ?_
      refine v_get fX8_13 dX8_turn_25 h_0 (by decide) rfl ?_
      refine v_iload_n dX8_turn_28 rfl ?_
      refine v_aload_n dX8_turn_29 rfl ?_
      refine v_aload_n dX8_turn_30 rfl ?_
      refine v_get fX8_13 dX8_turn_31 h_0 (by decide) rfl ?_
      refine v_iload_n dX8_turn_34 rfl ?_
      refine w_mald dX8_turn_35 h_2 a3 (by omega) (by omega) (by decide) ?_
      refine v_aload_n dX8_turn_36 rfl ?_
      refine v_get fX8_9 dX8_turn_37 h_0 (by decide) rfl ?_
      refine v_iload_n dX8_turn_40 rfl ?_
      refine w_nald dX8_turn_41 h_1 a3 (by omega) (by omega) (by decide) ?_
      refine v_iload_n dX8_turn_42 rfl ?_
      refine v_cV (av := [.long (jL (pt a3 : Nat)), .int (iI (wd a3 : Nat)), .int (iI (m:Nat))]) (st := [.int (iI (a3:Nat)), .ref 2]) zyX8_turned lX8_152 h_0 rfl (p_Hturned (d := 6) h_0 hp12 ⟨w3.1, w3.2.1⟩ w3.2.2 hm (by decide)) dX8_turn_43 rfl rfl (Nat.le_of_ble_eq_true rfl) (by omega) (Nat.le_of_ble_eq_true rfl) (Nat.le_of_ble_eq_true rfl) (Or.inl (fun _ _ _ q => ZN q)) (fun r9 G2 n9 q9 => ?_)
      obtain ⟨rfl, q9n, hp12, fr8⟩ := q9
      have q9n := q9n.symm
      subst q9n
      have h_0 := (fr8 0 (by decide)).trans h_0
      have h_1 := (fr8 1 (by decide)).trans h_1
      have h_2 := (fr8 2 (by decide)).trans h_2
      have h_3 := (fr8 3 (by decide)).trans h_3
      have hQ := hQ.fr fr8 (by decide)
      have hp13 := hp13.fr fr8 (by decide)
      have hp14 := hp14.fr fr8 (by decide)
      have hA := hA.fr fr8 (by decide)
      have hT := hT.fr fr8 (by decide)
      have hG := hG.fr fr8 (by decide)
      have fr := fr.tr fr8 (by decide)
      refine w_mast dX8_turn_46 h_2 a3 (by omega) (by omega) (by decide) (mtn (wd a3) (pt a3) m) rfl (fun H1 eH1 => ?_)
      obtain ⟨F1, eF1⟩ : ∃ zz9, zz9 = zup pt a3 (mtn (wd a3) (pt a3) m) := ⟨_, rfl⟩
      rw [← eF1] at eH1
      have h_2 : H1 2 = aM 32 F1 := zf_same eH1
      have h_0 := (zf_ne eH1 (by decide)).trans h_0
      have h_1 := (zf_ne eH1 (by decide)).trans h_1
      have fr := fr.put eH1 (by simp)
      have fz : zFr [2] G2 H1 := zFr.put zFr.rf eH1 (by simp)
      have h_3 := (fz 3 (by decide)).trans h_3
      have hQ := hQ.fr fz (by decide)
      have hp12 := hp12.fr fz (by decide)
      have hp13 := hp13.fr fz (by decide)
      have hp14 := hp14.fr fz (by decide)
      have hA := hA.fr fz (by decide)
      have hT := hT.fr fz (by decide)
      have hG := hG.fr fz (by decide)
      rw [eF1] at h_2
      exact v_vret dX8_turn_47 trivial (Nat.le_of_ble_eq_true rfl) (Nat.le_of_ble_eq_true rfl) ⟨rfl, rfl, ⟨h_0, h_1, h_2, h_3, hQ, ⟨hp12, hp13, hp14⟩, hA, hT, hG⟩, fr⟩
    · exact absurd c2 (by omega)
theorem fd_m {x : Int} {i : Nat} (hi : i < 8) : x % 18446744073709551616 / (2 : Int) ^ (8 * i) % 256 = (((x / (2 : Int) ^ (8 * i) % 256).toNat : Nat) : Int) := by
  rcases (show i = 0 ∨ i = 1 ∨ i = 2 ∨ i = 3 ∨ i = 4 ∨ i = 5 ∨ i = 6 ∨ i = 7 by omega) with q | q | q | q | q | q | q | q <;> subst q
  · rw [show (2 : Int) ^ (8 * 0) = 1 from by decide]; omega
  · rw [show (2 : Int) ^ (8 * 1) = 256 from by decide]; omega
  · rw [show (2 : Int) ^ (8 * 2) = 65536 from by decide]; omega
  · rw [show (2 : Int) ^ (8 * 3) = 16777216 from by decide]; omega
  · rw [show (2 : Int) ^ (8 * 4) = 4294967296 from by decide]; omega
  · rw [show (2 : Int) ^ (8 * 5) = 1099511627776 from by decide]; omega
  · rw [show (2 : Int) ^ (8 * 6) = 281474976710656 from by decide]; omega
  · rw [show (2 : Int) ^ (8 * 7) = 72057594037927936 from by decide]; omega
set_option maxHeartbeats 8000000 in
set_option maxRecDepth 100000 in
theorem p_Hfeed {d n tc m : Nat} {wd pt tf : Nat → Nat} {Q : Nat → Int} {qn : Nat → Bool} {L : List Nat} {x : Int} {h : zH} (hH : HD h wd pt Q qn tf tc L) (hx : -9223372036854775808 ≤ x ∧ x < 9223372036854775808) (hm : 1 ≤ m ∧ m ≤ 8 ∧ tc + m ≤ 80) (hd : 7 ≤ d) :
    zM yX8_feed cX8_feed 5 (some .int) d 0 0 [.ref 0, .long (jL x), .int (iI (m:Nat))] h n (fun r9 h' n' => r9 = some (.int (iI (tc + m : Nat))) ∧ n' = n ∧ HD h' wd pt Q qn (fdF tf tc x m) (tc + m) L ∧ zFr HOL h h') := by
  refine zM_of zyX8_feed rfl (Nat.le_of_ble_eq_true rfl) (fun X hX => ?_)
  have fr : zFr HOL h h := zFr.rf
  have loop : ∀ (j i : Nat) (H : zH), i + j = m → HD H wd pt Q qn (fdF tf tc x i) (tc + i) L → zFr HOL h H → (zV X (fun r9 h' n' => r9 = some (.int (iI (tc + m : Nat))) ∧ n' = n ∧ HD h' wd pt Q qn (fdF tf tc x m) (tc + m) L ∧ zFr HOL h h') cX8_feed 5 RX8 (some .int) d 0 0 38 [(0, .ref 0), (1, .long (jL x)), (3, .int (iI (m:Nat))), (4, .int (iI (i:Nat)))] [] H n 0 0) := by
    intro j
    induction j with
    | zero =>
      intro i H hj hH fr
      have hi : i = m := by omega
      subst hi
      obtain ⟨h_0, h_1, h_2, h_3, hQ, ⟨hp12, hp13, hp14⟩, hA, hT, hG⟩ := id hH
      obtain ⟨i9, tk9, tens9, mi9, na9, D9, h_30, -⟩ := id hT
      refine v_iload dX8_feed_38 rfl ?_
      refine v_iload_n dX8_feed_40 rfl ?_
      refine w_icmp_ge 69 dX8_feed_41 (by decide) (by omega) (by omega) (fun c1 => ?_) (fun c1 => ?_)
      · skip
        refine v_aload_n dX8_feed_69 rfl ?_
        refine v_get fX8_47 dX8_feed_70 h_0 (by decide) rfl ?_
        refine v_get fX8_178 dX8_feed_73 h_30 (by decide) rfl ?_
        exact v_iret dX8_feed_76 trivial (Nat.le_of_ble_eq_true rfl) (Nat.le_of_ble_eq_true rfl) ⟨rfl, rfl, hH, fr⟩
      · exact absurd c1 (by omega)
    | succ j ih =>
      intro i H hj hH fr
      obtain ⟨h_0, h_1, h_2, h_3, hQ, ⟨hp12, hp13, hp14⟩, hA, hT, hG⟩ := id hH
      obtain ⟨i9, tk9, tens9, mi9, na9, D9, h_30, h_31, hD9⟩ := id hT
      refine v_iload dX8_feed_38 rfl ?_
      refine v_iload_n dX8_feed_40 rfl ?_
      refine w_icmp_ge 69 dX8_feed_41 (by decide) (by omega) (by omega) (fun c1 => ?_) (fun c1 => ?_)
      · exact absurd c1 (by omega)
      · skip
        refine v_aload_n dX8_feed_44 rfl ?_
        refine v_get fX8_47 dX8_feed_45 h_0 (by decide) rfl ?_
        refine v_lload_n dX8_feed_48 rfl ?_
        refine w_topl (x % 18446744073709551616) (by omega) ?_
        refine v_bipush (iI 8) dX8_feed_49 rfl ?_
        refine v_iload dX8_feed_51 rfl ?_
        refine w_imul dX8_feed_53 ?_
        refine w_lushr dX8_feed_54 (8 * i) (2 ^ (8 * i)) rfl (by omega) (by omega) (by omega) ?_
        refine w_l2i dX8_feed_55 ?_
        refine v_sipush (iI 255) dX8_feed_56 rfl ?_
        refine w_iandm dX8_feed_59 8 256 rfl (by decide) rfl ?_
        refine w_ei ((x / (2 : Int) ^ (8 * i) % 256).toNat : Nat) (fd_m (by omega)) ?_
        refine v_cV (av := [.int (iI ((x / (2 : Int) ^ (8 * i) % 256).toNat : Nat))]) (st := []) zyX6_append lX8_184 h_30 rfl (p_tappend (d := 6) h_30 h_31 (by omega) (by omega)) dX8_feed_60 rfl rfl (Nat.le_of_ble_eq_true rfl) (by omega) (Nat.le_of_ble_eq_true rfl) (Nat.le_of_ble_eq_true rfl) (Or.inl (fun _ _ _ q => ZN q)) (fun r9 G1 n9 q9 => ?_)
        obtain ⟨rfl, q9n, h_30, h_31, fr8⟩ := q9
        have q9n := q9n.symm
        subst q9n
        have hT : TPx G1 (fdF tf tc x (i + 1)) (tc + (i + 1)) := ⟨i9, tk9, tens9, mi9, na9, D9, h_30, h_31, hD9.fr fr8 (by decide) (by decide)⟩
        have h_0 := (fr8 0 (by decide)).trans h_0
        have h_1 := (fr8 1 (by decide)).trans h_1
        have h_2 := (fr8 2 (by decide)).trans h_2
        have h_3 := (fr8 3 (by decide)).trans h_3
        have hQ := hQ.fr fr8 (by decide)
        have hp12 := hp12.fr fr8 (by decide)
        have hp13 := hp13.fr fr8 (by decide)
        have hp14 := hp14.fr fr8 (by decide)
        have hA := hA.fr fr8 (by decide)
        have hG := hG.fr fr8 (by decide)
        have fr := fr.tr fr8 (by decide)
        refine w_iinc (lv' := [(4, .int (iI ((i:Nat) + 1))), (0, .ref 0), (1, .long (jL x)), (3, .int (iI (m:Nat)))]) dX8_feed_63 rfl (by decide) rfl ?_
        refine w_sub (lv2 := [(0, .ref 0), (1, .long (jL x)), (3, .int (iI (m:Nat))), (4, .int (iI ((i:Nat) + 1)))]) [1, 2, 3, 0] rfl ?_
        refine v_goto 38 dX8_feed_66 (by decide) ?_
        have e1 : (i : Int) + 1 = ((i + 1 : Nat) : Int) := by omega
        rw [e1]
        exact ih (i + 1) G1 (by omega) ⟨h_0, h_1, h_2, h_3, hQ, ⟨hp12, hp13, hp14⟩, hA, hT, hG⟩ fr
  obtain ⟨h_0, h_1, h_2, h_3, hQ, ⟨hp12, hp13, hp14⟩, hA, hT, hG⟩ := id hH
  obtain ⟨i9, tk9, tens9, mi9, na9, D9, h_30, -⟩ := id hT
  refine v_iload_n dX8_feed_0 rfl ?_
  refine v_iconst (iI 1) dX8_feed_1 rfl ?_
  refine w_icmp_lt 25 dX8_feed_2 (by decide) (by omega) (by decide) (fun c1 => ?_) (fun c1 => ?_)
  · exact absurd c1 (by omega)
  · skip
    refine v_iload_n dX8_feed_5 rfl ?_
    refine v_bipush (iI 8) dX8_feed_6 rfl ?_
    refine w_icmp_gt 25 dX8_feed_8 (by decide) (by omega) (by decide) (fun c2 => ?_) (fun c2 => ?_)
    · exact absurd c2 (by omega)
    · skip
      refine v_aload_n dX8_feed_11 rfl ?_
      refine v_get fX8_47 dX8_feed_12 h_0 (by decide) rfl ?_
      refine v_get fX8_178 dX8_feed_15 h_30 (by decide) rfl ?_
      refine v_iload_n dX8_feed_18 rfl ?_
      refine w_iadd dX8_feed_19 ?_
      refine v_bipush (iI 80) dX8_feed_20 rfl ?_
      refine w_icmp_le 35 dX8_feed_22 (by decide) (by omega) (by decide) (fun c3 => ?_) (fun c3 => ?_)
      · skip
        refine v_iconst (iI 0) dX8_feed_35 rfl ?_
        refine v_istore (i := 4) (lv' := [(4, .int (iI 0)), (0, .ref 0), (1, .long (jL x)), (3, .int (iI (m:Nat)))]) dX8_feed_36 (by decide) rfl ?_
        refine w_sub (lv2 := [(0, .ref 0), (1, .long (jL x)), (3, .int (iI (m:Nat))), (4, .int (iI 0))]) [1, 2, 3, 0] rfl ?_
        exact loop m 0 h (by omega) hH zFr.rf
      · exact absurd c3 (by omega)
