/-! The acts: their cells, and the ones without a seek -/
abbrev oActs (p o u l s : Nat) : zC := .inr (0, [.ref p, .ref o, .ref u, .ref l, .ref s])
abbrev ACS : List Nat := [16, 17, 19, 20, 21, 22, 23, 24, 25, 26, 27, 28, 29]
def AC (h : zH) : Prop := h 15 = oActs 16 18 19 21 23 ∧ (∃ na V, QD h 16 17 na V) ∧ h 18 = oPosit false false 1 0 ∧ (∃ v, WD h 19 20 v) ∧ (∃ v, WD h 21 22 v) ∧ ∃ F B mo, SK h F B mo
theorem AC.fr {h h' : zH} {S : List Nat} (q : AC h) (f : zFr S h h') (hs : ∀ x ∈ S, ¬ (15 ≤ x ∧ x ≤ 29)) : AC h' := by
  obtain ⟨h_15, ⟨qn, qV, hQ⟩, h_18, ⟨u0, hU⟩, ⟨l0, hL⟩, F0, B0, mo0, h_23, hwF, hwB, t0, hwT⟩ := q
  have k : ∀ x, 15 ≤ x → x ≤ 29 → x ∉ S := fun x h1 h2 z => hs x z ⟨h1, h2⟩
  exact ⟨(f 15 (k 15 (by decide) (by decide))).trans h_15, ⟨qn, qV, hQ.fr f (k _ (by decide) (by decide)) (k _ (by decide) (by decide))⟩, (f 18 (k 18 (by decide) (by decide))).trans h_18, ⟨u0, hU.fr f (k _ (by decide) (by decide)) (k _ (by decide) (by decide))⟩, ⟨l0, hL.fr f (k _ (by decide) (by decide)) (k _ (by decide) (by decide))⟩, F0, B0, mo0, (f 23 (k 23 (by decide) (by decide))).trans h_23, hwF.fr f (k _ (by decide) (by decide)) (k _ (by decide) (by decide)), hwB.fr f (k _ (by decide) (by decide)) (k _ (by decide) (by decide)), t0, hwT.fr f (k _ (by decide) (by decide)) (k _ (by decide) (by decide))⟩
/-- what a posit's cell says, within its bounds -/
def PO (h : zH) (a : Nat) (na mi : Bool) (sg : Nat) (ex : Int) : Prop := h a = oPosit na mi (sg : Nat) ex ∧ sg < 1073741824 ∧ -120 ≤ ex ∧ ex ≤ 120
theorem PO.fr {h h' : zH} {a sg : Nat} {na mi : Bool} {ex : Int} {S : List Nat} (q : PO h a na mi sg ex) (f : zFr S h h') (ha : a ∉ S) : PO h' a na mi sg ex := ⟨(f a ha).trans q.1, q.2⟩
def sam (n : Nat) (na mi : Bool) (sg : Nat) (ex : Int) : Nat := cond na (2 ^ (n - 1)) (rlg n mi sg ex false)
set_option maxHeartbeats 4000000 in
set_option maxRecDepth 100000 in
theorem p_same {d n w sg e : Nat} {na mi : Bool} {ex : Int} {h : zH} (hp : PO h e na mi sg ex) (hd : 3 ≤ d) (hw : 3 ≤ w ∧ w ≤ 32) :
    zM yX0_same cX0_same 3 (some .long) d 0 0 [.ref 15, .ref e, .int (iI (w:Nat))] h n (fun r h' n' => r = some (.long (jL (sam w na mi sg ex : Nat))) ∧ n' = n ∧ h' = h) := by
  obtain ⟨h_e, hs, hx1, hx2⟩ := hp
  refine zM_of zyX0_same rfl (Nat.le_of_ble_eq_true rfl) (fun X hX => ?_)
  refine v_aload_n dX0_same_0 rfl ?_
  refine v_get fX0_43 dX0_same_1 h_e (by decide) rfl ?_
  refine w_ifb_eq 14 dX0_same_4 (by decide) (fun c1 => ?_) (fun c1 => ?_)
  · skip
    refine v_iload_n dX0_same_14 rfl ?_
    refine v_aload_n dX0_same_15 rfl ?_
    refine v_get fX0_53 dX0_same_16 h_e (by decide) rfl ?_
    refine v_aload_n dX0_same_19 rfl ?_
    refine v_get fX0_56 dX0_same_20 h_e (by decide) rfl ?_
    refine v_aload_n dX0_same_23 rfl ?_
    refine v_get fX0_60 dX0_same_24 h_e (by decide) rfl ?_
    refine v_iconst (iI 0) dX0_same_27 rfl ?_
    refine w_ei (bz false) rfl ?_
    refine v_cS (av := [.int (iI (w:Nat)), .int (iI (bz mi)), .long (jL (sg:Nat)), .int (iI ex), .int (iI (bz false))]) (st := []) zyX4_ofLong lX0_64 (p_ofLong (d := 2) (by decide) hw (by omega) (by omega)) dX0_same_28 rfl rfl (Nat.le_of_ble_eq_true rfl) (by omega) (Nat.le_of_ble_eq_true rfl) (Nat.le_of_ble_eq_true rfl) (Or.inl (fun _ _ _ q => ZN q)) (fun r9 K1 n9 q9 => ?_)
    obtain ⟨rfl, q9n, q9h⟩ := q9
    have q9n := q9n.symm
    subst q9n
    have q9h := q9h.symm
    subst q9h
    exact v_lret dX0_same_31 trivial (Nat.le_of_ble_eq_true rfl) (Nat.le_of_ble_eq_true rfl) ⟨by unfold sam; rw [c1, cond_false], rfl, rfl⟩
  · skip
    refine v_iload_n dX0_same_7 rfl ?_
    refine v_cS (av := [.int (iI (w:Nat))]) (st := []) zyX4_notReal lX0_47 (p_notReal (d := 2) (by omega)) dX0_same_8 rfl rfl (Nat.le_of_ble_eq_true rfl) (by omega) (Nat.le_of_ble_eq_true rfl) (Nat.le_of_ble_eq_true rfl) (Or.inl (fun _ _ _ q => ZN q)) (fun r9 K1 n9 q9 => ?_)
    obtain ⟨rfl, q9n, q9h⟩ := q9
    have q9n := q9n.symm
    subst q9n
    have q9h := q9h.symm
    subst q9h
    refine v_goto 31 dX0_same_11 (by decide) ?_
    exact v_lret dX0_same_31 trivial (Nat.le_of_ble_eq_true rfl) (Nat.le_of_ble_eq_true rfl) ⟨by unfold sam; rw [c1, cond_true], rfl, rfl⟩
/-- a quire's rounding -/
def stl (n : Nat) (na : Bool) (V : Nat) : Nat := cond na (2 ^ (n - 1)) (rwd n (decide (2 ^ 511 ≤ V)) (qsz V) (-240))
set_option maxHeartbeats 4000000 in
set_option maxRecDepth 100000 in
theorem p_settled {d n w q qb V u0 : Nat} {na : Bool} {h : zH} (h_15 : h 15 = oActs 16 18 19 21 23) (hU : WD h 19 20 u0) (hq : QD h q qb na V) (hne : q ≠ 19 ∧ q ≠ 20 ∧ qb ≠ 19 ∧ qb ≠ 20) (hd : 4 ≤ d) (hw : 3 ≤ w ∧ w ≤ 32) :
    zM yX0_settled cX0_settled 3 (some .long) d 0 0 [.ref 15, .ref q, .int (iI (w:Nat))] h n (fun r h' n' => r = some (.long (jL (stl w na V : Nat))) ∧ n' = n ∧ (∃ v, WD h' 19 20 v) ∧ zFr [19, 20] h h') := by
  obtain ⟨f9, h_q, -⟩ := id hq
  refine zM_of zyX0_settled rfl (Nat.le_of_ble_eq_true rfl) (fun X hX => ?_)
  refine v_aload_n dX0_settled_0 rfl ?_
  refine v_get fX0_68 dX0_settled_1 h_q (by decide) rfl ?_
  refine w_ifb_eq 12 dX0_settled_4 (by decide) (fun c1 => ?_) (fun c1 => ?_)
  · skip
    refine v_aload_n dX0_settled_12 rfl ?_
    refine v_aload_n dX0_settled_13 rfl ?_
    refine v_get fX0_29 dX0_settled_14 h_15 (by decide) rfl ?_
    refine v_cV (av := [.ref 19]) (st := []) zyX3_copySize lX0_69 h_q rfl (p_copySize (d := 3) hq hU hne.2.2.2 (by decide)) dX0_settled_17 rfl rfl (Nat.le_of_ble_eq_true rfl) (by omega) (Nat.le_of_ble_eq_true rfl) (Nat.le_of_ble_eq_true rfl) (Or.inl (fun _ _ _ q => ZN q)) (fun r9 H1 n9 q9 => ?_)
    obtain ⟨rfl, q9n, hU, fr9⟩ := q9
    have q9n := q9n.symm
    subst q9n
    have hq := hq.fr fr9 (by simp [hne]) (by simp [hne])
    have h_15 := (fr9 15 (by decide)).trans h_15
    obtain ⟨f8, h_q, -⟩ := id hq
    refine v_iload_n dX0_settled_20 rfl ?_
    refine v_aload_n dX0_settled_21 rfl ?_
    refine v_cV (av := []) (st := [.int (iI (w:Nat))]) zyX3_isMinus lX0_73 h_q rfl (p_isMinus (d := 3) hq) dX0_settled_22 rfl rfl (Nat.le_of_ble_eq_true rfl) (by omega) (Nat.le_of_ble_eq_true rfl) (Nat.le_of_ble_eq_true rfl) (Or.inl (fun _ _ _ q => ZN q)) (fun r9 K1 n9 q9 => ?_)
    obtain ⟨rfl, q9n, q9h⟩ := q9
    have q9n := q9n.symm
    subst q9n
    have q9h := q9h.symm
    subst q9h
    refine v_aload_n dX0_settled_25 rfl ?_
    refine v_get fX0_29 dX0_settled_26 h_15 (by decide) rfl ?_
    refine v_sipush (iI (-240)) dX0_settled_29 rfl ?_
    refine v_cS (av := [.int (iI (w:Nat)), .int (iI (bz (decide (2 ^ 511 ≤ V)))), .ref 19, .int (iI (-240))]) (st := []) zyX4_ofWide lX0_77 (p_ofWide (d := 3) hU (by decide) hw (by decide)) dX0_settled_32 rfl rfl (Nat.le_of_ble_eq_true rfl) (by omega) (Nat.le_of_ble_eq_true rfl) (Nat.le_of_ble_eq_true rfl) (Or.inl (fun _ _ _ q => ZN q)) (fun r9 K2 n9 q9 => ?_)
    obtain ⟨rfl, q9n, q9h⟩ := q9
    have q9n := q9n.symm
    subst q9n
    have q9h := q9h.symm
    subst q9h
    exact v_lret dX0_settled_35 trivial (Nat.le_of_ble_eq_true rfl) (Nat.le_of_ble_eq_true rfl) ⟨by unfold stl; rw [c1, cond_false], rfl, ⟨_, hU⟩, fr9⟩
  · skip
    refine v_iload_n dX0_settled_7 rfl ?_
    refine v_cS (av := [.int (iI (w:Nat))]) (st := []) zyX4_notReal lX0_47 (p_notReal (d := 3) (by omega)) dX0_settled_8 rfl rfl (Nat.le_of_ble_eq_true rfl) (by omega) (Nat.le_of_ble_eq_true rfl) (Nat.le_of_ble_eq_true rfl) (Or.inl (fun _ _ _ q => ZN q)) (fun r9 K1 n9 q9 => ?_)
    obtain ⟨rfl, q9n, q9h⟩ := q9
    have q9n := q9n.symm
    subst q9n
    have q9h := q9h.symm
    subst q9h
    exact v_lret dX0_settled_11 trivial (Nat.le_of_ble_eq_true rfl) (Nat.le_of_ble_eq_true rfl) ⟨by unfold stl; rw [c1, cond_true], rfl, ⟨_, hU⟩, zFr.rf⟩
/-- what a pile of two products says -/
def pl2 (d1 : Bool) (T1 : Nat) (d2 : Bool) (T2 : Nat) : Nat := qad (qad 0 d1 T1) d2 T2
def sumA (n : Nat) (n1 m1 : Bool) (s1 : Nat) (x1 : Int) (n2 m2 : Bool) (s2 : Nat) (x2 : Int) (mi : Bool) : Nat := cond (n1 || n2) (2 ^ (n - 1)) (stl n false (pl2 m1 (s1 * 2 ^ (x1 + 240).toNat) (mi ^^ m2) (s2 * 2 ^ (x2 + 240).toNat)))
set_option maxHeartbeats 4000000 in
set_option maxRecDepth 100000 in
theorem p_sumOf {d n w s1 s2 : Nat} {n1 m1 n2 m2 mi : Bool} {x1 x2 : Int} {h : zH} (hA : AC h) (hp1 : PO h 12 n1 m1 s1 x1) (hp2 : PO h 13 n2 m2 s2 x2) (hd : 5 ≤ d) (hw : 3 ≤ w ∧ w ≤ 32) :
    zM yX0_sumOf cX0_sumOf 5 (some .long) d 0 0 [.ref 15, .ref 12, .ref 13, .int (iI (bz mi)), .int (iI (w:Nat))] h n (fun r h' n' => r = some (.long (jL (sumA w n1 m1 s1 x1 n2 m2 s2 x2 mi : Nat))) ∧ n' = n ∧ AC h' ∧ zFr ACS h h') := by
  obtain ⟨h_15, ⟨qn, qV, hQ⟩, h_18, ⟨u0, hU⟩, ⟨l0, hL⟩, F0, B0, mo0, h_23, hwF, hwB, t0, hwT⟩ := hA
  obtain ⟨h_12, hs1, hx1, hx1'⟩ := hp1
  obtain ⟨h_13, hs2, hx2, hx2'⟩ := hp2
  refine zM_of zyX0_sumOf rfl (Nat.le_of_ble_eq_true rfl) (fun X hX => ?_)
  have fr : zFr ACS h h := zFr.rf
  refine v_aload_n dX0_sumOf_0 rfl ?_
  refine v_get fX0_10 dX0_sumOf_1 h_15 (by decide) rfl ?_
  obtain ⟨f916, h_16, -⟩ := id hQ
  refine v_cV (av := []) (st := []) zyX3_empty lX0_81 h_16 rfl (p_empty (d := 4) hQ) dX0_sumOf_4 rfl rfl (Nat.le_of_ble_eq_true rfl) (by omega) (Nat.le_of_ble_eq_true rfl) (Nat.le_of_ble_eq_true rfl) (Or.inl (fun _ _ _ q => ZN q)) (fun r9 H1 n9 q9 => ?_)
  obtain ⟨rfl, q9n, hQ, fr9⟩ := q9
  have q9n := q9n.symm
  subst q9n
  have h_15 := (fr9 15 (by decide)).trans h_15
  have h_18 := (fr9 18 (by decide)).trans h_18
  have h_23 := (fr9 23 (by decide)).trans h_23
  have h_12 := (fr9 12 (by decide)).trans h_12
  have h_13 := (fr9 13 (by decide)).trans h_13
  have hU := hU.fr fr9 (by decide) (by decide)
  have hL := hL.fr fr9 (by decide) (by decide)
  have hwF := hwF.fr fr9 (by decide) (by decide)
  have hwB := hwB.fr fr9 (by decide) (by decide)
  have hwT := hwT.fr fr9 (by decide) (by decide)
  have fr := fr.tr fr9 (by decide)
  refine v_aload_n dX0_sumOf_7 rfl ?_
  refine v_get fX0_10 dX0_sumOf_8 h_15 (by decide) rfl ?_
  refine v_aload_n dX0_sumOf_11 rfl ?_
  refine v_aload_n dX0_sumOf_12 rfl ?_
  refine v_get fX0_19 dX0_sumOf_13 h_15 (by decide) rfl ?_
  refine v_iconst (iI 0) dX0_sumOf_16 rfl ?_
  refine w_ei (bz false) rfl ?_
  obtain ⟨f916, h_16, -⟩ := id hQ
  refine v_cV (av := [.ref 12, .ref 18, .int (iI (bz false))]) (st := []) zyX3_bring lX0_84 h_16 rfl (p_bring (d := 4) (s2 := 1) (sh := (x1 + 240).toNat) hQ h_12 h_18 (by decide) (by omega) (by decide) (by omega) (by decide) (by omega)) dX0_sumOf_17 rfl rfl (Nat.le_of_ble_eq_true rfl) (by omega) (Nat.le_of_ble_eq_true rfl) (Nat.le_of_ble_eq_true rfl) (Or.inl (fun _ _ _ q => ZN q)) (fun r9 H2 n9 q9 => ?_)
  obtain ⟨rfl, q9n, hQ, fr8⟩ := q9
  have q9n := q9n.symm
  subst q9n
  have h_15 := (fr8 15 (by decide)).trans h_15
  have h_18 := (fr8 18 (by decide)).trans h_18
  have h_23 := (fr8 23 (by decide)).trans h_23
  have h_12 := (fr8 12 (by decide)).trans h_12
  have h_13 := (fr8 13 (by decide)).trans h_13
  have hU := hU.fr fr8 (by decide) (by decide)
  have hL := hL.fr fr8 (by decide) (by decide)
  have hwF := hwF.fr fr8 (by decide) (by decide)
  have hwB := hwB.fr fr8 (by decide) (by decide)
  have hwT := hwT.fr fr8 (by decide) (by decide)
  have fr := fr.tr fr8 (by decide)
  refine v_aload_n dX0_sumOf_20 rfl ?_
  refine v_get fX0_10 dX0_sumOf_21 h_15 (by decide) rfl ?_
  refine v_aload_n dX0_sumOf_24 rfl ?_
  refine v_aload_n dX0_sumOf_25 rfl ?_
  refine v_get fX0_19 dX0_sumOf_26 h_15 (by decide) rfl ?_
  refine v_iload_n dX0_sumOf_29 rfl ?_
  obtain ⟨f916, h_16, -⟩ := id hQ
  refine v_cV (av := [.ref 13, .ref 18, .int (iI (bz mi))]) (st := []) zyX3_bring lX0_84 h_16 rfl (p_bring (d := 4) (s2 := 1) (sh := (x2 + 240).toNat) hQ h_13 h_18 (by decide) (by omega) (by decide) (by omega) (by decide) (by omega)) dX0_sumOf_30 rfl rfl (Nat.le_of_ble_eq_true rfl) (by omega) (Nat.le_of_ble_eq_true rfl) (Nat.le_of_ble_eq_true rfl) (Or.inl (fun _ _ _ q => ZN q)) (fun r9 H3 n9 q9 => ?_)
  obtain ⟨rfl, q9n, hQ, fr7⟩ := q9
  have q9n := q9n.symm
  subst q9n
  have h_15 := (fr7 15 (by decide)).trans h_15
  have h_18 := (fr7 18 (by decide)).trans h_18
  have h_23 := (fr7 23 (by decide)).trans h_23
  have h_12 := (fr7 12 (by decide)).trans h_12
  have h_13 := (fr7 13 (by decide)).trans h_13
  have hU := hU.fr fr7 (by decide) (by decide)
  have hL := hL.fr fr7 (by decide) (by decide)
  have hwF := hwF.fr fr7 (by decide) (by decide)
  have hwB := hwB.fr fr7 (by decide) (by decide)
  have hwT := hwT.fr fr7 (by decide) (by decide)
  have fr := fr.tr fr7 (by decide)
  refine v_aload_n dX0_sumOf_33 rfl ?_
  refine v_aload_n dX0_sumOf_34 rfl ?_
  refine v_get fX0_10 dX0_sumOf_35 h_15 (by decide) rfl ?_
  refine v_iload dX0_sumOf_38 rfl ?_
  refine v_cV (av := [.ref 16, .int (iI (w:Nat))]) (st := []) zyX0_settled lX0_88 h_15 rfl (p_settled (d := 4) h_15 hU hQ (by decide) (by decide) hw) dX0_sumOf_40 rfl rfl (Nat.le_of_ble_eq_true rfl) (by omega) (Nat.le_of_ble_eq_true rfl) (Nat.le_of_ble_eq_true rfl) (Or.inl (fun _ _ _ q => ZN q)) (fun r9 H4 n9 q9 => ?_)
  obtain ⟨rfl, q9n, ⟨u1, hU⟩, fr6⟩ := q9
  have q9n := q9n.symm
  subst q9n
  have e9 : stl w (false || n1 || false || n2 || false) (cond (false || n1 || false || n2 || false) (cond (false || n1 || false) 0 (qad 0 (false ^^ m1 ^^ false) (s1 * 1 * 2 ^ (x1 + 240).toNat))) (qad (cond (false || n1 || false) 0 (qad 0 (false ^^ m1 ^^ false) (s1 * 1 * 2 ^ (x1 + 240).toNat))) (mi ^^ m2 ^^ false) (s2 * 1 * 2 ^ (x2 + 240).toNat))) = sumA w n1 m1 s1 x1 n2 m2 s2 x2 mi := by
    unfold sumA pl2
    rw [Nat.mul_one, Nat.mul_one, Bool.xor_false, Bool.xor_false, Bool.false_xor]
    cases n1 <;> cases n2 <;> rfl
  rw [e9]
  have h_15 := (fr6 15 (by decide)).trans h_15
  have h_18 := (fr6 18 (by decide)).trans h_18
  have h_23 := (fr6 23 (by decide)).trans h_23
  have h_12 := (fr6 12 (by decide)).trans h_12
  have h_13 := (fr6 13 (by decide)).trans h_13
  have hL := hL.fr fr6 (by decide) (by decide)
  have hwF := hwF.fr fr6 (by decide) (by decide)
  have hwB := hwB.fr fr6 (by decide) (by decide)
  have hwT := hwT.fr fr6 (by decide) (by decide)
  have fr := fr.tr fr6 (by decide)
  have hQ := hQ.fr fr6 (by decide) (by decide)
  exact v_lret dX0_sumOf_43 trivial (Nat.le_of_ble_eq_true rfl) (Nat.le_of_ble_eq_true rfl) ⟨rfl, rfl, ⟨h_15, ⟨_, _, hQ⟩, h_18, ⟨_, hU⟩, ⟨_, hL⟩, _, _, _, h_23, hwF, hwB, _, hwT⟩, fr⟩
