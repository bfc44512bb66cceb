/-! The page: single bytes, powers, the reversal -/
abbrev oPage (by9 ed re un9 be ab ga : Nat) (ob oa ev : Bool) (tens c : Int) : zC := .inr (1, [.ref by9, .ref ed, .ref re, .ref un9, .ref be, .ref ab, .ref ga, .int (iI (bz ob)), .int (iI (bz oa)), .int (iI (bz ev)), .int (iI tens), .int (iI c)])
/-- the bytes f begin with the list L -/
def txt (f : Nat → Nat) (L : List Nat) : Prop := ∀ i, i < L.length → L[i]? = some (f i)
theorem txt_nil (f : Nat → Nat) : txt f [] := fun i hi => absurd hi (by simp)
theorem txt_app {f : Nat → Nat} {L : List Nat} (x : Nat) (h : txt f L) : txt (zup f L.length x) (L ++ [x]) := fun i hi => by
  rw [List.length_append, List.length_singleton] at hi
  by_cases q : i = L.length
  · subst q; rw [zup_same, List.getElem?_concat_length]
  · rw [zup_ne _ _ q, List.getElem?_append_left (by omega)]; exact h i (by omega)
/-- the page's own cell and its text -/
def PT (h : zH) (ob oa ev : Bool) (tens : Int) (L : List Nat) : Prop := ∃ f, h 34 = oPage 35 36 37 39 41 43 45 ob oa ev tens (L.length : Nat) ∧ h 35 = aN 160 f ∧ bb f ∧ txt f L ∧ L.length ≤ 160
theorem PT.fr {h h' : zH} {ob oa ev : Bool} {tens : Int} {L : List Nat} {S : List Nat} (q : PT h ob oa ev tens L) (f : zFr S h h') (ha : 34 ∉ S) (hb : 35 ∉ S) : PT h' ob oa ev tens L := by
  obtain ⟨g, h1, h2, h3⟩ := q
  exact ⟨g, (f 34 ha).trans h1, (f 35 hb).trans h2, h3⟩
theorem bb_up {f : Nat → Nat} {k v : Nat} (h : bb f) (hv : v < 256) : bb (zup f k v) := fun i => by
  unfold zup; split
  · exact hv
  · exact h i
set_option maxHeartbeats 4000000 in
set_option maxRecDepth 100000 in
theorem p_pappend {d n x : Nat} {ob oa ev : Bool} {tens : Int} {L : List Nat} {h : zH} (hp : PT h ob oa ev tens L) (hL : L.length < 160) (hx : x < 256) :
    zM yX1_append cX1_append 2 none d 0 0 [.ref 34, .int (iI (x:Nat))] h n (fun r h' n' => r = none ∧ n' = n ∧ PT h' ob oa ev tens (L ++ [x]) ∧ zFr [34, 35] h h') := by
  obtain ⟨f, h_34, h_35, hb, ht, hl⟩ := hp
  refine zM_of zyX1_append rfl (Nat.le_of_ble_eq_true rfl) (fun X hX => ?_)
  have fr : zFr [34, 35] h h := zFr.rf
  refine v_aload_n dX1_append_0 rfl ?_
  refine v_get fX1_39 dX1_append_1 h_34 (by decide) rfl ?_
  refine w_if_lt 37 dX1_append_4 (by decide) (by omega) (fun c1 => ?_) (fun c1 => ?_)
  · exact absurd c1 (by omega)
  · skip
    refine v_aload_n dX1_append_7 rfl ?_
    refine v_get fX1_39 dX1_append_8 h_34 (by decide) rfl ?_
    refine v_sipush (iI 160) dX1_append_11 rfl ?_
    refine w_icmp_ge 37 dX1_append_14 (by decide) (by omega) (by decide) (fun c2 => ?_) (fun c2 => ?_)
    · exact absurd c2 (by omega)
    · skip
      refine v_aload_n dX1_append_17 rfl ?_
      refine v_get fX1_9 dX1_append_18 h_34 (by decide) rfl ?_
      refine v_aload_n dX1_append_21 rfl ?_
      refine v_get fX1_39 dX1_append_22 h_34 (by decide) rfl ?_
      refine v_iload_n dX1_append_25 rfl ?_
      refine w_nast dX1_append_26 h_35 L.length (by omega) (by omega) (by decide) x (by omega) (fun H1 eH1 => ?_)
      obtain ⟨F1, eF1⟩ : ∃ zz9, zz9 = zup f L.length x := ⟨_, rfl⟩
      rw [← eF1] at eH1
      have h_35 : H1 35 = aN 160 F1 := zf_same eH1
      have h_34 := (zf_ne eH1 (by decide)).trans h_34
      have fr := fr.put eH1 (by simp)
      refine v_aload_n dX1_append_27 rfl ?_
      refine v_dup dX1_append_28 rfl ?_
      refine v_get fX1_39 dX1_append_29 h_34 (by decide) rfl ?_
      refine v_iconst (iI 1) dX1_append_32 rfl ?_
      refine w_iadd dX1_append_33 ?_
      refine w_ei ((L ++ [x]).length:Nat) (by rw [List.length_append, List.length_singleton]; omega) ?_
      refine v_put (fs' := [.ref 35, .ref 36, .ref 37, .ref 39, .ref 41, .ref 43, .ref 45, .int (iI (bz ob)), .int (iI (bz oa)), .int (iI (bz ev)), .int (iI tens), .int (iI ((L ++ [x]).length:Nat))]) fX1_39 dX1_append_34 h_34 (by decide) (Nat.le_of_ble_eq_true rfl) rfl rfl rfl (fun H2 eH2 => ?_)
      have h_34 : H2 34 = oPage 35 36 37 39 41 43 45 ob oa ev tens ((L ++ [x]).length:Nat) := zf_same eH2
      have h_35 := (zf_ne eH2 (by decide)).trans h_35
      have fr := fr.put eH2 (by simp)
      exact v_vret dX1_append_37 trivial (Nat.le_of_ble_eq_true rfl) (Nat.le_of_ble_eq_true rfl) ⟨rfl, rfl, ⟨F1, h_34, h_35, by rw [eF1]; exact bb_up hb hx, by rw [eF1]; exact txt_app x ht, by rw [List.length_append, List.length_singleton]; omega⟩, fr⟩
set_option maxHeartbeats 4000000 in
set_option maxRecDepth 100000 in
theorem p_putNaR {d n : Nat} {ob oa ev : Bool} {tens : Int} {L : List Nat} {h : zH} (hp : PT h ob oa ev tens L) (hd : 1 ≤ d) :
    zM yX1_putNaR cX1_putNaR 1 none d 0 0 [.ref 34] h n (fun r h' n' => r = none ∧ n' = n ∧ PT h' ob oa ev tens [78, 97, 82] ∧ zFr [34, 35] h h') := by
  obtain ⟨f, h_34, h_35, hb, ht, hl⟩ := hp
  refine zM_of zyX1_putNaR rfl (Nat.le_of_ble_eq_true rfl) (fun X hX => ?_)
  have fr : zFr [34, 35] h h := zFr.rf
  refine v_aload_n dX1_putNaR_0 rfl ?_
  refine v_iconst (iI 0) dX1_putNaR_1 rfl ?_
  refine v_put (fs' := [.ref 35, .ref 36, .ref 37, .ref 39, .ref 41, .ref 43, .ref 45, .int (iI (bz ob)), .int (iI (bz oa)), .int (iI (bz ev)), .int (iI tens), .int (iI 0)]) fX1_39 dX1_putNaR_2 h_34 (by decide) (Nat.le_of_ble_eq_true rfl) rfl rfl rfl (fun H1 eH1 => ?_)
  have h_34 : H1 34 = oPage 35 36 37 39 41 43 45 ob oa ev tens 0 := zf_same eH1
  have h_35 := (zf_ne eH1 (by decide)).trans h_35
  have fr := fr.put eH1 (by simp)
  refine v_aload_n dX1_putNaR_5 rfl ?_
  refine v_bipush (iI 78) dX1_putNaR_6 rfl ?_
  have hp : PT H1 ob oa ev tens [] := ⟨f, h_34, h_35, hb, txt_nil f, by decide⟩
  refine v_cV (av := [.int (iI 78)]) (st := []) zyX1_append lX1_43 h_34 rfl (p_pappend (d := 0) (x := 78) hp (by decide) (by decide)) dX1_putNaR_8 rfl rfl (Nat.le_of_ble_eq_true rfl) (by omega) (Nat.le_of_ble_eq_true rfl) (Nat.le_of_ble_eq_true rfl) (Or.inl (fun _ _ _ q => ZN q)) (fun r9 G1 n9 q9 => ?_)
  obtain ⟨rfl, q9n, hp, fr9⟩ := q9
  have q9n := q9n.symm
  subst q9n
  obtain ⟨_, h_34, -⟩ := id hp
  refine v_aload_n dX1_putNaR_11 rfl ?_
  refine v_bipush (iI 97) dX1_putNaR_12 rfl ?_
  refine v_cV (av := [.int (iI 97)]) (st := []) zyX1_append lX1_43 h_34 rfl (p_pappend (d := 0) (x := 97) hp (by decide) (by decide)) dX1_putNaR_14 rfl rfl (Nat.le_of_ble_eq_true rfl) (by omega) (Nat.le_of_ble_eq_true rfl) (Nat.le_of_ble_eq_true rfl) (Or.inl (fun _ _ _ q => ZN q)) (fun r9 G2 n9 q9 => ?_)
  obtain ⟨rfl, q9n, hp, fr8⟩ := q9
  have q9n := q9n.symm
  subst q9n
  obtain ⟨_, h_34, -⟩ := id hp
  refine v_aload_n dX1_putNaR_17 rfl ?_
  refine v_bipush (iI 82) dX1_putNaR_18 rfl ?_
  refine v_cV (av := [.int (iI 82)]) (st := []) zyX1_append lX1_43 h_34 rfl (p_pappend (d := 0) (x := 82) hp (by decide) (by decide)) dX1_putNaR_20 rfl rfl (Nat.le_of_ble_eq_true rfl) (by omega) (Nat.le_of_ble_eq_true rfl) (Nat.le_of_ble_eq_true rfl) (Or.inl (fun _ _ _ q => ZN q)) (fun r9 G3 n9 q9 => ?_)
  obtain ⟨rfl, q9n, hp, fr7⟩ := q9
  have q9n := q9n.symm
  subst q9n
  exact v_vret dX1_putNaR_23 trivial (Nat.le_of_ble_eq_true rfl) (Nat.le_of_ble_eq_true rfl) ⟨rfl, rfl, hp, ((fr.tr fr9 (by decide)).tr fr8 (by decide)).tr fr7 (by decide)⟩
set_option maxHeartbeats 4000000 in
set_option maxRecDepth 100000 in
theorem p_putNought {d n : Nat} {ob oa ev : Bool} {tens : Int} {L : List Nat} {h : zH} (hp : PT h ob oa ev tens L) (hd : 1 ≤ d) :
    zM yX1_putNought cX1_putNought 1 none d 0 0 [.ref 34] h n (fun r h' n' => r = none ∧ n' = n ∧ PT h' ob oa ev tens [48] ∧ zFr [34, 35] h h') := by
  obtain ⟨f, h_34, h_35, hb, ht, hl⟩ := hp
  refine zM_of zyX1_putNought rfl (Nat.le_of_ble_eq_true rfl) (fun X hX => ?_)
  have fr : zFr [34, 35] h h := zFr.rf
  refine v_aload_n dX1_putNought_0 rfl ?_
  refine v_iconst (iI 0) dX1_putNought_1 rfl ?_
  refine v_put (fs' := [.ref 35, .ref 36, .ref 37, .ref 39, .ref 41, .ref 43, .ref 45, .int (iI (bz ob)), .int (iI (bz oa)), .int (iI (bz ev)), .int (iI tens), .int (iI 0)]) fX1_39 dX1_putNought_2 h_34 (by decide) (Nat.le_of_ble_eq_true rfl) rfl rfl rfl (fun H1 eH1 => ?_)
  have h_34 : H1 34 = oPage 35 36 37 39 41 43 45 ob oa ev tens 0 := zf_same eH1
  have h_35 := (zf_ne eH1 (by decide)).trans h_35
  have fr := fr.put eH1 (by simp)
  refine v_aload_n dX1_putNought_5 rfl ?_
  refine v_bipush (iI 48) dX1_putNought_6 rfl ?_
  have hp : PT H1 ob oa ev tens [] := ⟨f, h_34, h_35, hb, txt_nil f, by decide⟩
  refine v_cV (av := [.int (iI 48)]) (st := []) zyX1_append lX1_43 h_34 rfl (p_pappend (d := 0) (x := 48) hp (by decide) (by decide)) dX1_putNought_8 rfl rfl (Nat.le_of_ble_eq_true rfl) (by omega) (Nat.le_of_ble_eq_true rfl) (Nat.le_of_ble_eq_true rfl) (Or.inl (fun _ _ _ q => ZN q)) (fun r9 G1 n9 q9 => ?_)
  obtain ⟨rfl, q9n, hp, fr9⟩ := q9
  have q9n := q9n.symm
  subst q9n
  exact v_vret dX1_putNought_11 trivial (Nat.le_of_ble_eq_true rfl) (Nat.le_of_ble_eq_true rfl) ⟨rfl, rfl, hp, fr.tr fr9 (by decide)⟩
/-- a power of ten, as a text -/
def pwT (tens : Int) : List Nat := (if tens < 0 then [45] else []) ++ ((if 10 ≤ tens.natAbs then [48 + tens.natAbs / 10] else []) ++ [48 + tens.natAbs % 10])
set_option maxHeartbeats 4000000 in
set_option maxRecDepth 100000 in
theorem p_putPower {d n : Nat} {ob oa ev : Bool} {tens : Int} {L : List Nat} {h : zH} (hp : PT h ob oa ev tens L) (hL : L.length < 150) (ht : -99 ≤ tens ∧ tens ≤ 99) (hd : 1 ≤ d) :
    zM yX1_putPower cX1_putPower 2 none d 0 0 [.ref 34] h n (fun r h' n' => r = none ∧ n' = n ∧ PT h' ob oa ev tens (L ++ pwT tens) ∧ zFr [34, 35] h h') := by
  obtain ⟨f, h_34, h_35, -⟩ := id hp
  refine zM_of zyX1_putPower rfl (Nat.le_of_ble_eq_true rfl) (fun X hX => ?_)
  have fr : zFr [34, 35] h h := zFr.rf
  have j38 : ∀ (H : zH) (M : List Nat), M.length < 155 → M ++ [48 + tens.natAbs % 10] = L ++ pwT tens → PT H ob oa ev tens M → zFr [34, 35] h H → (zV X (fun r h' n' => r = none ∧ n' = n ∧ PT h' ob oa ev tens (L ++ pwT tens) ∧ zFr [34, 35] h h') cX1_putPower 2 RX1 none d 0 0 38 [(0, .ref 34), (1, .int (iI (tens.natAbs:Nat)))] [] H n 0 0) := by
    intro H M hM eM hp fr
    obtain ⟨f, h_34, -⟩ := id hp
    refine v_aload_n dX1_putPower_38 rfl ?_
    refine v_bipush (iI 48) dX1_putPower_39 rfl ?_
    refine v_iload_n dX1_putPower_41 rfl ?_
    refine v_bipush (iI 10) dX1_putPower_42 rfl ?_
    refine w_iremn dX1_putPower_44 (by omega) (by decide) ?_
    refine w_iadd dX1_putPower_45 ?_
    refine w_ei (48 + tens.natAbs % 10:Nat) (by omega) ?_
    refine v_cV (av := [.int (iI (48 + tens.natAbs % 10:Nat))]) (st := []) zyX1_append lX1_43 h_34 rfl (p_pappend (d := 0) hp (by omega) (by omega)) dX1_putPower_46 rfl rfl (Nat.le_of_ble_eq_true rfl) (by omega) (Nat.le_of_ble_eq_true rfl) (Nat.le_of_ble_eq_true rfl) (Or.inl (fun _ _ _ q => ZN q)) (fun r9 G1 n9 q9 => ?_)
    obtain ⟨rfl, q9n, hp, fr9⟩ := q9
    have q9n := q9n.symm
    subst q9n
    rw [eM] at hp
    exact v_vret dX1_putPower_49 trivial (Nat.le_of_ble_eq_true rfl) (Nat.le_of_ble_eq_true rfl) ⟨rfl, rfl, hp, fr.tr fr9 (by decide)⟩
  have j13 : ∀ (H : zH) (M : List Nat), M.length < 152 → M ++ ((if 10 ≤ tens.natAbs then [48 + tens.natAbs / 10] else []) ++ [48 + tens.natAbs % 10]) = L ++ pwT tens → PT H ob oa ev tens M → zFr [34, 35] h H → (zV X (fun r h' n' => r = none ∧ n' = n ∧ PT h' ob oa ev tens (L ++ pwT tens) ∧ zFr [34, 35] h h') cX1_putPower 2 RX1 none d 0 0 13 [(0, .ref 34)] [] H n 0 0) := by
    intro H M hM eM hp fr
    obtain ⟨f, h_34, h_35, -⟩ := id hp
    refine v_aload_n dX1_putPower_13 rfl ?_
    refine v_get fX1_136 dX1_putPower_14 h_34 (by decide) rfl ?_
    refine v_cS (av := [.int (iI tens)]) (st := []) zyJ9_abs_0f7a4 lX1_153 (p_abs (d := 0) (by omega)) dX1_putPower_17 rfl rfl (Nat.le_of_ble_eq_true rfl) (by omega) (Nat.le_of_ble_eq_true rfl) (Nat.le_of_ble_eq_true rfl) (Or.inl (fun _ _ _ q => ZN q)) (fun r9 K1 n9 q9 => ?_)
    obtain ⟨rfl, q9n, q9h⟩ := q9
    have q9n := q9n.symm
    subst q9n
    have q9h := q9h.symm
    subst q9h
    refine v_istore_n (i := 1) (lv' := [(1, .int (iI (tens.natAbs:Nat))), (0, .ref 34)]) dX1_putPower_20 rfl (by decide) rfl ?_
    refine v_iload_n dX1_putPower_21 rfl ?_
    refine v_bipush (iI 10) dX1_putPower_22 rfl ?_
    refine w_icmp_lt 38 dX1_putPower_24 (by decide) (by omega) (by decide) (fun c2 => ?_) (fun c2 => ?_)
    · rw [if_neg (by omega), List.nil_append] at eM
      refine w_sub (lv2 := [(0, .ref 34), (1, .int (iI (tens.natAbs:Nat)))]) [1, 0] rfl ?_
      exact j38 _ M (by omega) eM hp fr
    · rw [if_pos (by omega), ← List.append_assoc] at eM
      refine v_aload_n dX1_putPower_27 rfl ?_
      refine v_bipush (iI 48) dX1_putPower_28 rfl ?_
      refine v_iload_n dX1_putPower_30 rfl ?_
      refine v_bipush (iI 10) dX1_putPower_31 rfl ?_
      refine w_idivn dX1_putPower_33 (by omega) (by decide) ?_
      refine w_iadd dX1_putPower_34 ?_
      refine w_ei (48 + tens.natAbs / 10:Nat) (by omega) ?_
      refine v_cV (av := [.int (iI (48 + tens.natAbs / 10:Nat))]) (st := []) zyX1_append lX1_43 h_34 rfl (p_pappend (d := 0) hp (by omega) (by omega)) dX1_putPower_35 rfl rfl (Nat.le_of_ble_eq_true rfl) (by omega) (Nat.le_of_ble_eq_true rfl) (Nat.le_of_ble_eq_true rfl) (Or.inl (fun _ _ _ q => ZN q)) (fun r9 G1 n9 q9 => ?_)
      obtain ⟨rfl, q9n, hp, fr9⟩ := q9
      have q9n := q9n.symm
      subst q9n
      refine w_sub (lv2 := [(0, .ref 34), (1, .int (iI (tens.natAbs:Nat)))]) [1, 0] rfl ?_
      exact j38 _ _ (by rw [List.length_append, List.length_singleton]; omega) eM hp (fr.tr fr9 (by decide))
  refine v_aload_n dX1_putPower_0 rfl ?_
  refine v_get fX1_136 dX1_putPower_1 h_34 (by decide) rfl ?_
  refine w_if_ge 13 dX1_putPower_4 (by decide) (by omega) (fun c1 => ?_) (fun c1 => ?_)
  · exact j13 h L (by omega) (by unfold pwT; rw [if_neg (show ¬ tens < 0 by omega), List.nil_append]) hp fr
  · skip
    refine v_aload_n dX1_putPower_7 rfl ?_
    refine v_bipush (iI 45) dX1_putPower_8 rfl ?_
    refine v_cV (av := [.int (iI 45)]) (st := []) zyX1_append lX1_43 h_34 rfl (p_pappend (d := 0) (x := 45) hp (by omega) (by decide)) dX1_putPower_10 rfl rfl (Nat.le_of_ble_eq_true rfl) (by omega) (Nat.le_of_ble_eq_true rfl) (Nat.le_of_ble_eq_true rfl) (Or.inl (fun _ _ _ q => ZN q)) (fun r9 G1 n9 q9 => ?_)
    obtain ⟨rfl, q9n, hp, fr9⟩ := q9
    have q9n := q9n.symm
    subst q9n
    exact j13 _ _ (by rw [List.length_append, List.length_singleton]; omega) (by unfold pwT; rw [if_pos (show tens < 0 by omega), List.append_assoc]) hp (fr.tr fr9 (by decide))
set_option maxHeartbeats 4000000 in
set_option maxRecDepth 100000 in
theorem p_byteAt {d n i : Nat} {ob oa ev : Bool} {tens : Int} {L : List Nat} {h : zH} (hp : PT h ob oa ev tens L) (hi : i < L.length) :
    zM yX1_byteAt cX1_byteAt 2 (some .int) d 0 0 [.ref 34, .int (iI (i:Nat))] h n (fun r h' n' => r = some (.int (iI ((L[i]?.getD 0 : Nat)))) ∧ n' = n ∧ h' = h) := by
  obtain ⟨f, h_34, h_35, hb, ht, hl⟩ := hp
  refine zM_of zyX1_byteAt rfl (Nat.le_of_ble_eq_true rfl) (fun X hX => ?_)
  refine v_iload_n dX1_byteAt_0 rfl ?_
  refine w_if_lt 20 dX1_byteAt_1 (by decide) (by omega) (fun c1 => ?_) (fun c1 => ?_)
  · exact absurd c1 (by omega)
  · skip
    refine v_iload_n dX1_byteAt_4 rfl ?_
    refine v_sipush (iI 160) dX1_byteAt_5 rfl ?_
    refine w_icmp_ge 20 dX1_byteAt_8 (by decide) (by omega) (by decide) (fun c2 => ?_) (fun c2 => ?_)
    · exact absurd c2 (by omega)
    · skip
      refine v_aload_n dX1_byteAt_11 rfl ?_
      refine v_get fX1_9 dX1_byteAt_12 h_34 (by decide) rfl ?_
      refine v_iload_n dX1_byteAt_15 rfl ?_
      refine w_nald dX1_byteAt_16 h_35 i (by omega) (by omega) (by decide) ?_
      refine v_goto 21 dX1_byteAt_17 (by decide) ?_
      exact v_iret dX1_byteAt_21 trivial (Nat.le_of_ble_eq_true rfl) (Nat.le_of_ble_eq_true rfl) ⟨by rw [ht i hi]; rfl, rfl, rfl⟩
/-- the first k and the last k of L changed places -/
def rvk (L : List Nat) (k : Nat) (f : Nat → Nat) : Prop := ∀ i, i < L.length → L[if i < k ∨ L.length - k ≤ i then L.length - 1 - i else i]? = some (f i)
set_option maxHeartbeats 4000000 in
set_option maxRecDepth 100000 in
theorem p_reverse {d n : Nat} {ob oa ev : Bool} {tens : Int} {L : List Nat} {h : zH} (hp : PT h ob oa ev tens L) :
    zM yX1_reverse cX1_reverse 3 none d 0 0 [.ref 34] h n (fun r h' n' => r = none ∧ n' = n ∧ PT h' ob oa ev tens L.reverse ∧ zFr [34, 35] h h') := by
  obtain ⟨f, h_34, h_35, hb, ht, hl⟩ := hp
  obtain ⟨c, ec⟩ : ∃ c, L.length = c := ⟨_, rfl⟩
  rw [ec] at h_34 hl
  refine zM_of zyX1_reverse rfl (Nat.le_of_ble_eq_true rfl) (fun X hX => ?_)
  have fr : zFr [34, 35] h h := zFr.rf
  have loop : ∀ (m k : Nat) (y : Int) (g : Nat → Nat) (H : zH), k + m = c / 2 → y = k → bb g → rvk L k g → H 34 = oPage 35 36 37 39 41 43 45 ob oa ev tens (c:Nat) → H 35 = aN 160 g → zFr [34, 35] h H → (zV X (fun r h' n' => r = none ∧ n' = n ∧ PT h' ob oa ev tens L.reverse ∧ zFr [34, 35] h h') cX1_reverse 3 RX1 none d 0 0 2 [(0, .ref 34), (1, .int (iI y))] [] H n 0 0) := by
    intro m
    induction m with
    | zero =>
      intro k y g H hk ey hg hv h_34 h_35 fr
      refine v_iload_n dX1_reverse_2 rfl ?_
      refine v_aload_n dX1_reverse_3 rfl ?_
      refine v_get fX1_39 dX1_reverse_4 h_34 (by decide) rfl ?_
      refine v_iconst (iI 2) dX1_reverse_7 rfl ?_
      refine w_idivn dX1_reverse_8 (by omega) (by decide) ?_
      refine w_icmp_ge 58 dX1_reverse_9 (by decide) (by omega) (by omega) (fun c1 => ?_) (fun c1 => ?_)
      · skip
        exact v_vret dX1_reverse_58 trivial (Nat.le_of_ble_eq_true rfl) (Nat.le_of_ble_eq_true rfl) ⟨rfl, rfl, ⟨g, by rw [List.length_reverse, ec]; exact h_34, h_35, hg, fun i hi => by
          rw [List.length_reverse] at hi
          rw [List.getElem?_reverse hi]
          have := hv i hi
          rw [ec] at hi this ⊢
          by_cases z : i < k ∨ c - k ≤ i
          · rw [if_pos z] at this; exact this
          · rw [if_neg z] at this
            rw [show c - 1 - i = i from by omega]; exact this, by rw [List.length_reverse, ec]; exact hl⟩, fr⟩
      · exact absurd c1 (by omega)
    | succ m ih =>
      intro k y g H hk ey hg hv h_34 h_35 fr
      have g1 := hg k
      have g2 := hg (c - 1 - k)
      refine v_iload_n dX1_reverse_2 rfl ?_
      refine v_aload_n dX1_reverse_3 rfl ?_
      refine v_get fX1_39 dX1_reverse_4 h_34 (by decide) rfl ?_
      refine v_iconst (iI 2) dX1_reverse_7 rfl ?_
      refine w_idivn dX1_reverse_8 (by omega) (by decide) ?_
      refine w_icmp_ge 58 dX1_reverse_9 (by decide) (by omega) (by omega) (fun c1 => ?_) (fun c1 => ?_)
      · exact absurd c1 (by omega)
      · skip
        refine v_aload_n dX1_reverse_12 rfl ?_
        refine v_get fX1_9 dX1_reverse_13 h_34 (by decide) rfl ?_
        refine v_iload_n dX1_reverse_16 rfl ?_
        refine w_nald dX1_reverse_17 h_35 k (by omega) (by omega) (by decide) ?_
        refine v_istore_n (i := 2) (lv' := [(2, .int (iI (g k : Nat))), (0, .ref 34), (1, .int (iI y))]) dX1_reverse_18 rfl (by decide) rfl ?_
        refine v_aload_n dX1_reverse_19 rfl ?_
        refine v_get fX1_9 dX1_reverse_20 h_34 (by decide) rfl ?_
        refine v_iload_n dX1_reverse_23 rfl ?_
        refine v_aload_n dX1_reverse_24 rfl ?_
        refine v_get fX1_9 dX1_reverse_25 h_34 (by decide) rfl ?_
        refine v_aload_n dX1_reverse_28 rfl ?_
        refine v_get fX1_39 dX1_reverse_29 h_34 (by decide) rfl ?_
        refine v_iconst (iI 1) dX1_reverse_32 rfl ?_
        refine w_isub dX1_reverse_33 ?_
        refine v_iload_n dX1_reverse_34 rfl ?_
        refine w_isub dX1_reverse_35 ?_
        refine w_nald dX1_reverse_36 h_35 (c - 1 - k) (by omega) (by omega) (by decide) ?_
        refine w_nast dX1_reverse_37 h_35 k (by omega) (by omega) (by decide) (g (c - 1 - k)) (by omega) (fun H1 eH1 => ?_)
        obtain ⟨F1, eF1⟩ : ∃ zz9, zz9 = zup g k (g (c - 1 - k)) := ⟨_, rfl⟩
        rw [← eF1] at eH1
        have h_35 : H1 35 = aN 160 F1 := zf_same eH1
        have h_34 := (zf_ne eH1 (by decide)).trans h_34
        have fr := fr.put eH1 (by simp)
        refine v_aload_n dX1_reverse_38 rfl ?_
        refine v_get fX1_9 dX1_reverse_39 h_34 (by decide) rfl ?_
        refine v_aload_n dX1_reverse_42 rfl ?_
        refine v_get fX1_39 dX1_reverse_43 h_34 (by decide) rfl ?_
        refine v_iconst (iI 1) dX1_reverse_46 rfl ?_
        refine w_isub dX1_reverse_47 ?_
        refine v_iload_n dX1_reverse_48 rfl ?_
        refine w_isub dX1_reverse_49 ?_
        refine v_iload_n dX1_reverse_50 rfl ?_
        refine w_nast dX1_reverse_51 h_35 (c - 1 - k) (by omega) (by omega) (by decide) (g k) (by omega) (fun H2 eH2 => ?_)
        obtain ⟨F2, eF2⟩ : ∃ zz9, zz9 = zup F1 (c - 1 - k) (g k) := ⟨_, rfl⟩
        rw [← eF2] at eH2
        have h_35 : H2 35 = aN 160 F2 := zf_same eH2
        have h_34 := (zf_ne eH2 (by decide)).trans h_34
        have fr := fr.put eH2 (by simp)
        refine w_iinc (lv' := [(1, .int (iI (y + 1))), (2, .int (iI (g k : Nat))), (0, .ref 34)]) dX1_reverse_52 rfl (by decide) rfl ?_
        refine v_goto 2 dX1_reverse_55 (by decide) ?_
        refine w_sub (lv2 := [(0, .ref 34), (1, .int (iI (y + 1)))]) [2, 0] rfl ?_
        refine ih (k + 1) (y + 1) F2 _ (by omega) (by omega) (by rw [eF2, eF1]; exact bb_up (bb_up hg g2) g1) (fun i hi => ?_) h_34 h_35 fr
        rw [ec] at hi ⊢
        have hvi := hv i (by rw [ec]; exact hi)
        rw [ec] at hvi
        by_cases z1 : i = c - 1 - k
        · subst z1
          have hvk := hv k (by rw [ec]; omega)
          rw [ec, if_neg (by omega)] at hvk
          rw [eF2, zup_same, if_pos (by omega), show c - 1 - (c - 1 - k) = k from by omega]
          exact hvk
        · by_cases z2 : i = k
          · subst z2
            have hvk := hv (c - 1 - i) (by rw [ec]; omega)
            rw [ec, if_neg (by omega)] at hvk
            rw [eF2, zup_ne _ _ z1, eF1, zup_same, if_pos (by omega)]
            exact hvk
          · rw [eF2, zup_ne _ _ z1, eF1, zup_ne _ _ z2]
            by_cases z3 : i < k ∨ c - k ≤ i
            · rw [if_pos z3] at hvi; rw [if_pos (by omega)]; exact hvi
            · rw [if_neg z3] at hvi; rw [if_neg (by omega)]; exact hvi
  refine v_iconst (iI 0) dX1_reverse_0 rfl ?_
  refine v_istore_n (i := 1) (lv' := [(1, .int (iI 0)), (0, .ref 34)]) dX1_reverse_1 rfl (by decide) rfl ?_
  refine w_sub (lv2 := [(0, .ref 34), (1, .int (iI 0))]) [1, 0] rfl ?_
  exact loop (c / 2) 0 0 f h (by omega) rfl hb (fun i hi => by rw [if_neg (by omega)]; exact ht i hi) h_34 h_35 fr
