/-! The page: the exact decimal -/
/-- the last k decimal digits of N, as bytes, the last one first -/
def dl : Nat → Nat → List Nat
  | _, 0 => []
  | N, k + 1 => (48 + N % 10) :: dl (N / 10) k
theorem dl_len : ∀ (k N : Nat), (dl N k).length = k
  | 0, _ => rfl
  | k + 1, N => by show (dl (N / 10) k).length + 1 = k + 1; rw [dl_len k]
theorem dl_app : ∀ (j k N : Nat), dl N (j + k) = dl N j ++ dl (N / 10 ^ j) k
  | 0, k, N => by rw [Nat.zero_add, Nat.pow_zero, Nat.div_one]; rfl
  | j + 1, k, N => by
    rw [show j + 1 + k = (j + k) + 1 from by omega]
    show (48 + N % 10) :: dl (N / 10) (j + k) = (48 + N % 10) :: (dl (N / 10) j ++ dl (N / 10 ^ (j + 1)) k)
    rw [dl_app j k, Nat.div_div_eq_div_mul, Nat.pow_succ, Nat.mul_comm 10]
theorem dl_succ (N k : Nat) : dl N (k + 1) = dl N k ++ [48 + N / 10 ^ k % 10] := dl_app k 1 N
/-- how many decimal digits, at least one -/
def ndg (W : Nat) : Nat → Nat
  | 0 => 1
  | m + 1 => if W < 10 then 1 else ndg (W / 10) m + 1
/-- the exact decimal of a size sg 2^ex: its digits as those of one whole number -/
def fN (sg : Nat) (ex : Int) : Nat := sg * 2 ^ ex.toNat * 5 ^ (-ex).toNat
/-- the exact decimal, read from its end; L digits of the whole number -/
def fR (mi : Bool) (N beh L : Nat) : List Nat := dl N beh ++ ((if 0 < beh then [46] else []) ++ (dl (N / 10 ^ beh) (L - beh) ++ cond mi [45] []))
set_option maxHeartbeats 4000000 in
set_option maxRecDepth 100000 in
theorem p_putFull {d n sg e R0 K : Nat} {na mi ob oa ev : Bool} {ex tens : Int} {L0 : List Nat} {h : zH} (hp : PT h ob oa ev tens L0) (hR : WD h 37 38 R0) (h_e : h e = oPosit na mi (sg:Nat) ex) (he : e ≠ 34 ∧ e ≠ 35 ∧ e ≠ 37 ∧ e ≠ 38) (hs : sg < 1073741824) (hx : -120 ≤ ex ∧ ex ≤ 120) (hd : 3 ≤ d)
    (hK1 : (-ex).toNat < K) (hK2 : fN sg ex < 10 ^ K) (hK3 : ∀ i, (-ex).toNat < i → i < K → 10 ^ i ≤ fN sg ex) (hK4 : K ≤ 150) :
    zM yX1_putFull cX1_putFull 4 none d 0 0 [.ref 34, .ref e] h n (fun r h' n' => r = none ∧ n' = n ∧ PT h' ob oa ev tens (fR mi (fN sg ex) (-ex).toNat K).reverse ∧ (∃ v, WD h' 37 38 v) ∧ zFr [34, 35, 37, 38] h h') := by
  obtain ⟨f, h_34, h_35, hb, ht, hl⟩ := hp
  obtain ⟨be, ebe⟩ : ∃ be, (-ex).toNat = be := ⟨_, rfl⟩
  obtain ⟨N, eN⟩ : ∃ N, fN sg ex = N := ⟨_, rfl⟩
  rw [ebe] at hK1 hK3
  rw [eN] at hK2 hK3
  have eN2 : sg * 2 ^ ex.toNat * 5 ^ be = N := by rw [← eN, ← ebe]; rfl
  have hN512 : N < 2 ^ 512 := by
    have : (10 : Nat) ^ K ≤ 10 ^ 150 := Nat.pow_le_pow_right (by decide) hK4
    have : (10 : Nat) ^ 150 < 2 ^ 512 := by decide
    omega
  have hN1 : sg * 2 ^ ex.toNat < 2 ^ 512 := by
    have := Nat.le_mul_of_pos_right (sg * 2 ^ ex.toNat) (Nat.pow_pos (n := be) (show 0 < 5 by decide))
    omega
  refine zM_of zyX1_putFull rfl (Nat.le_of_ble_eq_true rfl) (fun X hX => ?_)
  have fr : zFr [34, 35, 37, 38] h h := zFr.rf
  have ne_e_34 := he.1
  have ne_e_35 := he.2.1
  refine v_aload_n dX1_putFull_0 rfl ?_
  refine v_iconst (iI 0) dX1_putFull_1 rfl ?_
  refine v_put (fs' := [.ref 35, .ref 36, .ref 37, .ref 39, .ref 41, .ref 43, .ref 45, .int (iI (bz ob)), .int (iI (bz oa)), .int (iI (bz ev)), .int (iI tens), .int (iI 0)]) fX1_39 dX1_putFull_2 h_34 (by decide) (Nat.le_of_ble_eq_true rfl) rfl rfl rfl (fun H1 eH1 => ?_)
  have h_34 : H1 34 = oPage 35 36 37 39 41 43 45 ob oa ev tens 0 := zf_same eH1
  have h_35 := (zf_ne eH1 (by decide)).trans h_35
  have h_e := (zf_ne eH1 ne_e_34).trans h_e
  have fr := fr.put eH1 (by simp)
  refine v_iconst (iI 0) dX1_putFull_5 rfl ?_
  refine v_aload_n dX1_putFull_6 rfl ?_
  refine v_get fX1_47 dX1_putFull_7 h_e (by decide) rfl ?_
  refine w_ineg dX1_putFull_10 ?_
  have hR := hR.fr (zFr.put (S := [34]) zFr.rf eH1 (by simp)) (by decide) (by decide)
  have hp : PT H1 ob oa ev tens [] := ⟨f, h_34, h_35, hb, txt_nil f, by decide⟩
  refine v_cS (av := [.int (iI 0), .int (iI (-ex))]) (st := []) zyJ9_max_7cf53 lX1_50 (p_max (d := 2) (by decide) (by omega)) dX1_putFull_11 rfl rfl (Nat.le_of_ble_eq_true rfl) (by omega) (Nat.le_of_ble_eq_true rfl) (Nat.le_of_ble_eq_true rfl) (Or.inl (fun _ _ _ q => ZN q)) (fun r9 K1 n9 q9 => ?_)
  obtain ⟨rfl, q9n, q9h⟩ := q9
  have q9n := q9n.symm
  subst q9n
  have q9h := q9h.symm
  subst q9h
  refine w_ei (be:Nat) (by omega) ?_
  refine v_istore_n (i := 2) (lv' := [(2, .int (iI (be:Nat))), (0, .ref 34), (1, .ref e)]) dX1_putFull_14 rfl (by decide) rfl ?_
  refine v_aload_n dX1_putFull_15 rfl ?_
  refine v_get fX1_23 dX1_putFull_16 h_34 (by decide) rfl ?_
  refine v_aload_n dX1_putFull_19 rfl ?_
  refine v_get fX1_56 dX1_putFull_20 h_e (by decide) rfl ?_
  obtain ⟨u937, f937, h_37, -⟩ := id hR
  refine v_cV (av := [.long (jL (sg:Nat))]) (st := []) zyX7_put lX1_60 h_37 rfl (p_put (d := 2) hR (by decide) (by omega)) dX1_putFull_23 rfl rfl (Nat.le_of_ble_eq_true rfl) (by omega) (Nat.le_of_ble_eq_true rfl) (Nat.le_of_ble_eq_true rfl) (Or.inl (fun _ _ _ q => ZN q)) (fun r9 G1 n9 q9 => ?_)
  obtain ⟨rfl, q9n, hR, fr9⟩ := q9
  have q9n := q9n.symm
  subst q9n
  have h_e := (fr9 e (by simp [he])).trans h_e
  have h_34 := (fr9 34 (by decide)).trans h_34
  have hp := hp.fr fr9 (by decide) (by decide)
  have fr := fr.tr fr9 (by decide)
  refine v_aload_n dX1_putFull_26 rfl ?_
  refine v_get fX1_23 dX1_putFull_27 h_34 (by decide) rfl ?_
  refine v_iconst (iI 0) dX1_putFull_30 rfl ?_
  refine v_aload_n dX1_putFull_31 rfl ?_
  refine v_get fX1_47 dX1_putFull_32 h_e (by decide) rfl ?_
  refine v_cS (av := [.int (iI 0), .int (iI ex)]) (st := [.ref 37]) zyJ9_max_7cf53 lX1_50 (p_max (d := 2) (by decide) (by omega)) dX1_putFull_35 rfl rfl (Nat.le_of_ble_eq_true rfl) (by omega) (Nat.le_of_ble_eq_true rfl) (Nat.le_of_ble_eq_true rfl) (Or.inl (fun _ _ _ q => ZN q)) (fun r9 K2 n9 q9 => ?_)
  obtain ⟨rfl, q9n, q9h⟩ := q9
  have q9n := q9n.symm
  subst q9n
  have q9h := q9h.symm
  subst q9h
  refine w_ei (ex.toNat:Nat) (by omega) ?_
  obtain ⟨u937, f937, h_37, -⟩ := id hR
  refine v_cV (av := [.int (iI (ex.toNat:Nat))]) (st := []) zyX7_shiftUp lX1_64 h_37 rfl (p_shiftUp (d := 2) hR (by decide) (by omega) hN1) dX1_putFull_38 rfl rfl (Nat.le_of_ble_eq_true rfl) (by omega) (Nat.le_of_ble_eq_true rfl) (Nat.le_of_ble_eq_true rfl) (Or.inl (fun _ _ _ q => ZN q)) (fun r9 G2 n9 q9 => ?_)
  obtain ⟨rfl, q9n, hR, fr8⟩ := q9
  have q9n := q9n.symm
  subst q9n
  have h_e := (fr8 e (by simp [he])).trans h_e
  have h_34 := (fr8 34 (by decide)).trans h_34
  have hp := hp.fr fr8 (by decide) (by decide)
  have fr := fr.tr fr8 (by decide)
  refine v_aload_n dX1_putFull_41 rfl ?_
  refine v_get fX1_23 dX1_putFull_42 h_34 (by decide) rfl ?_
  refine v_ldc2_w (v := jL 5) kX1_67 dX1_putFull_45 ?_
  refine v_iload_n dX1_putFull_48 rfl ?_
  obtain ⟨u937, f937, h_37, -⟩ := id hR
  refine v_cV (av := [.long (jL 5), .int (iI (be:Nat))]) (st := []) zyX7_growOften lX1_69 h_37 rfl (p_growOften (d := 2) (x := 5) hR (by decide) (by decide) (by omega) (by rw [eN2]; exact hN512)) dX1_putFull_49 rfl rfl (Nat.le_of_ble_eq_true rfl) (by omega) (Nat.le_of_ble_eq_true rfl) (Nat.le_of_ble_eq_true rfl) (Or.inl (fun _ _ _ q => ZN q)) (fun r9 G3 n9 q9 => ?_)
  obtain ⟨rfl, q9n, hR, fr7⟩ := q9
  have q9n := q9n.symm
  subst q9n
  rw [eN2] at hR
  have h_e := (fr7 e (by simp [he])).trans h_e
  have hp := hp.fr fr7 (by decide) (by decide)
  have fr := fr.tr fr7 (by decide)
  have fin : ∀ (H : zH) (M : List Nat) (y : Int) (v : Nat), M.length < 155 → M ++ cond mi [45] [] = fR mi N be K → PT H ob oa ev tens M → WD H 37 38 v → H e = oPosit na mi (sg:Nat) ex → zFr [34, 35, 37, 38] h H → (zV X (fun r h' n' => r = none ∧ n' = n ∧ PT h' ob oa ev tens (fR mi (fN sg ex) (-ex).toNat K).reverse ∧ (∃ v, WD h' 37 38 v) ∧ zFr [34, 35, 37, 38] h h') cX1_putFull 4 RX1 none d 0 0 111 [(0, .ref 34), (1, .ref e), (2, .int (iI (be:Nat))), (3, .int (iI y))] [] H n 0 0) := by
    intro H M y v hM eM hp hR h_e fr
    rw [eN, ebe]
    have f2 : ∀ (H : zH) (v : Nat), PT H ob oa ev tens (fR mi N be K) → WD H 37 38 v → zFr [34, 35, 37, 38] h H → zV X (fun r h' n' => r = none ∧ n' = n ∧ PT h' ob oa ev tens (fR mi N be K).reverse ∧ (∃ v, WD h' 37 38 v) ∧ zFr [34, 35, 37, 38] h h') cX1_putFull 4 RX1 none d 0 0 124 [(0, .ref 34)] [] H n 0 0 := by
      intro H v hp hR fr
      obtain ⟨_, h_34, -⟩ := id hp
      refine v_aload_n dX1_putFull_124 rfl ?_
      refine v_cV (av := []) (st := []) zyX1_reverse lX1_85 h_34 rfl (p_reverse (d := 2) hp) dX1_putFull_125 rfl rfl (Nat.le_of_ble_eq_true rfl) (by omega) (Nat.le_of_ble_eq_true rfl) (Nat.le_of_ble_eq_true rfl) (Or.inl (fun _ _ _ q => ZN q)) (fun r9 G1 n9 q9 => ?_)
      obtain ⟨rfl, q9n, hp, fr9⟩ := q9
      have q9n := q9n.symm
      subst q9n
      exact v_vret dX1_putFull_128 trivial (Nat.le_of_ble_eq_true rfl) (Nat.le_of_ble_eq_true rfl) ⟨rfl, rfl, hp, ⟨v, hR.fr fr9 (by decide) (by decide)⟩, fr.tr fr9 (by decide)⟩
    refine v_aload_n dX1_putFull_111 rfl ?_
    refine v_get fX1_81 dX1_putFull_112 h_e (by decide) rfl ?_
    refine w_ifb_eq 124 dX1_putFull_115 (by decide) (fun c1 => ?_) (fun c1 => ?_)
    · rw [c1, cond_false, List.append_nil] at eM
      rw [eM] at hp
      refine w_sub (lv2 := [(0, .ref 34)]) [0] rfl ?_
      rw [c1] at f2 ⊢
      exact f2 _ v hp hR fr
    · rw [c1, cond_true] at eM
      obtain ⟨_, h_34, -⟩ := id hp
      refine v_aload_n dX1_putFull_118 rfl ?_
      refine v_bipush (iI 45) dX1_putFull_119 rfl ?_
      refine v_cV (av := [.int (iI 45)]) (st := []) zyX1_append lX1_43 h_34 rfl (p_pappend (d := 2) (x := 45) hp (by omega) (by decide)) dX1_putFull_121 rfl rfl (Nat.le_of_ble_eq_true rfl) (by omega) (Nat.le_of_ble_eq_true rfl) (Nat.le_of_ble_eq_true rfl) (Or.inl (fun _ _ _ q => ZN q)) (fun r9 G1 n9 q9 => ?_)
      obtain ⟨rfl, q9n, hp, fr9⟩ := q9
      have q9n := q9n.symm
      subst q9n
      rw [eM] at hp
      refine w_sub (lv2 := [(0, .ref 34)]) [0] rfl ?_
      rw [c1] at f2 ⊢
      exact f2 _ v hp (hR.fr fr9 (by decide) (by decide)) (fr.tr fr9 (by decide))
  have loop : ∀ (m k : Nat) (y : Int) (M : List Nat) (H : zH), k + m = K → y = k → M = (if k ≤ be then dl N k else dl N be ++ ((if 0 < be then [46] else []) ++ dl (N / 10 ^ be) (k - be))) → PT H ob oa ev tens M → WD H 37 38 (N / 10 ^ k) → H e = oPosit na mi (sg:Nat) ex → zFr [34, 35, 37, 38] h H → (zV X (fun r h' n' => r = none ∧ n' = n ∧ PT h' ob oa ev tens (fR mi (fN sg ex) (-ex).toNat K).reverse ∧ (∃ v, WD h' 37 38 v) ∧ zFr [34, 35, 37, 38] h h') cX1_putFull 4 RX1 none d 0 0 54 [(0, .ref 34), (1, .ref e), (2, .int (iI (be:Nat))), (3, .int (iI y))] [] H n 0 0) := by
    intro m
    induction m with
    | zero =>
      intro k y M H hk ey eM hp hR h_e fr
      have ek : k = K := by omega
      subst ek
      rw [if_neg (by omega)] at eM
      have hMl : M.length < 155 := by
        rw [eM, List.length_append, List.length_append, dl_len, dl_len]
        split <;> simp <;> omega
      have hz : N / 10 ^ k = 0 := Nat.div_eq_of_lt hK2
      have done := fin H M y _ hMl (by rw [eM]; unfold fR; rw [List.append_assoc, List.append_assoc]) hp hR h_e fr
      obtain ⟨f, h_34, -⟩ := id hp
      refine v_iload_n dX1_putFull_54 rfl ?_
      refine v_sipush (iI 160) dX1_putFull_55 rfl ?_
      refine w_icmp_ge 111 dX1_putFull_58 (by decide) (by omega) (by decide) (fun c1 => ?_) (fun c1 => ?_)
      · exact absurd c1 (by omega)
      · skip
        refine v_iload_n dX1_putFull_61 rfl ?_
        refine v_iload_n dX1_putFull_62 rfl ?_
        refine w_icmp_le 76 dX1_putFull_63 (by decide) (by omega) (by omega) (fun c2 => ?_) (fun c2 => ?_)
        · exact absurd c2 (by omega)
        · skip
          refine v_aload_n dX1_putFull_66 rfl ?_
          refine v_get fX1_23 dX1_putFull_67 h_34 (by decide) rfl ?_
          obtain ⟨u937, f937, h_37, -⟩ := id hR
          refine v_cV (av := []) (st := []) zyX7_isNought lX1_73 h_37 rfl (p_isNought (d := 2) hR) dX1_putFull_70 rfl rfl (Nat.le_of_ble_eq_true rfl) (by omega) (Nat.le_of_ble_eq_true rfl) (Nat.le_of_ble_eq_true rfl) (Or.inl (fun _ _ _ q => ZN q)) (fun r9 K1 n9 q9 => ?_)
          obtain ⟨rfl, q9n, q9h⟩ := q9
          have q9n := q9n.symm
          subst q9n
          have q9h := q9h.symm
          subst q9h
          refine w_ifb_ne 111 dX1_putFull_73 (by decide) (fun c3 => ?_) (fun c3 => ?_)
          · exact done
          · exact absurd hz (of_decide_eq_false c3)
    | succ m ih =>
      intro k y M H hk ey eM hp hR h_e fr
      have hMl : M.length ≤ k + 1 := by
        rw [eM]
        split
        · rw [dl_len]; omega
        · rw [List.length_append, List.length_append, dl_len, dl_len]
          split <;> simp <;> omega
      have goon : (zV X (fun r h' n' => r = none ∧ n' = n ∧ PT h' ob oa ev tens (fR mi (fN sg ex) (-ex).toNat K).reverse ∧ (∃ v, WD h' 37 38 v) ∧ zFr [34, 35, 37, 38] h h') cX1_putFull 4 RX1 none d 0 0 76 [(0, .ref 34), (1, .ref e), (2, .int (iI (be:Nat))), (3, .int (iI y))] [] H n 0 0) := by
        have dig : ∀ (H : zH) (M2 : List Nat), M2.length ≤ k + 2 → M2 ++ [48 + N / 10 ^ k % 10] = (if k + 1 ≤ be then dl N (k + 1) else dl N be ++ ((if 0 < be then [46] else []) ++ dl (N / 10 ^ be) (k + 1 - be))) → PT H ob oa ev tens M2 → WD H 37 38 (N / 10 ^ k) → H e = oPosit na mi (sg:Nat) ex → zFr [34, 35, 37, 38] h H → (zV X (fun r h' n' => r = none ∧ n' = n ∧ PT h' ob oa ev tens (fR mi (fN sg ex) (-ex).toNat K).reverse ∧ (∃ v, WD h' 37 38 v) ∧ zFr [34, 35, 37, 38] h h') cX1_putFull 4 RX1 none d 0 0 91 [(0, .ref 34), (1, .ref e), (2, .int (iI (be:Nat))), (3, .int (iI y))] [] H n 0 0) := by
          intro H M2 hM2 eM2 hp hR h_e fr
          obtain ⟨f, h_34, -⟩ := id hp
          refine v_aload_n dX1_putFull_91 rfl ?_
          refine v_bipush (iI 48) dX1_putFull_92 rfl ?_
          refine v_aload_n dX1_putFull_94 rfl ?_
          refine v_get fX1_23 dX1_putFull_95 h_34 (by decide) rfl ?_
          obtain ⟨u937, f937, h_37, -⟩ := id hR
          refine v_cV (av := []) (st := [.int (iI 48), .ref 34]) zyX7_cutDigit lX1_77 h_37 rfl (p_cutDigit (d := 2) hR (by decide)) dX1_putFull_98 rfl rfl (Nat.le_of_ble_eq_true rfl) (by omega) (Nat.le_of_ble_eq_true rfl) (Nat.le_of_ble_eq_true rfl) (Or.inl (fun _ _ _ q => ZN q)) (fun r9 G1 n9 q9 => ?_)
          obtain ⟨rfl, q9n, hR, fr9⟩ := q9
          have q9n := q9n.symm
          subst q9n
          have h_34 := (fr9 34 (by decide)).trans h_34
          have h_e := (fr9 e (by simp [he])).trans h_e
          have hp := hp.fr fr9 (by decide) (by decide)
          have fr := fr.tr fr9 (by decide)
          refine w_iadd dX1_putFull_101 ?_
          refine w_ei (48 + N / 10 ^ k % 10:Nat) (by omega) ?_
          refine v_cV (av := [.int (iI (48 + N / 10 ^ k % 10:Nat))]) (st := []) zyX1_append lX1_43 h_34 rfl (p_pappend (d := 2) hp (by omega) (by omega)) dX1_putFull_102 rfl rfl (Nat.le_of_ble_eq_true rfl) (by omega) (Nat.le_of_ble_eq_true rfl) (Nat.le_of_ble_eq_true rfl) (Or.inl (fun _ _ _ q => ZN q)) (fun r9 G2 n9 q9 => ?_)
          obtain ⟨rfl, q9n, hp, fr8⟩ := q9
          have q9n := q9n.symm
          subst q9n
          rw [eM2] at hp
          refine w_iinc (lv' := [(3, .int (iI (y + 1))), (0, .ref 34), (1, .ref e), (2, .int (iI (be:Nat)))]) dX1_putFull_105 rfl (by decide) rfl ?_
          refine v_goto 54 dX1_putFull_108 (by decide) ?_
          refine w_sub (lv2 := [(0, .ref 34), (1, .ref e), (2, .int (iI (be:Nat))), (3, .int (iI (y + 1)))]) [1, 2, 3, 0] rfl ?_
          refine ih (k + 1) (y + 1) _ _ (by omega) (by omega) rfl hp ?_ ((fr8 e (by simp [he])).trans h_e) (fr.tr fr8 (by decide))
          have := hR.fr fr8 (by decide) (by decide)
          rw [Nat.div_div_eq_div_mul, ← Nat.pow_succ] at this
          exact this
        obtain ⟨f, h_34, -⟩ := id hp
        refine v_iload_n dX1_putFull_76 rfl ?_
        refine v_iload_n dX1_putFull_77 rfl ?_
        refine w_icmp_ne 91 dX1_putFull_78 (by decide) (by omega) (by omega) (fun c1 => ?_) (fun c1 => ?_)
        · refine dig _ M (by omega) ?_ hp hR h_e fr
          rw [eM]
          by_cases z : k ≤ be
          · rw [if_pos z, if_pos (by omega), dl_succ]
          · rw [if_neg z, if_neg (show ¬ k + 1 ≤ be by omega), show k + 1 - be = (k - be) + 1 from by omega, dl_succ, Nat.div_div_eq_div_mul, ← Nat.pow_add, show be + (k - be) = k from by omega, List.append_assoc, List.append_assoc]
        · have ek : k = be := by omega
          rw [if_pos (by omega)] at eM
          refine v_iload_n dX1_putFull_81 rfl ?_
          refine w_if_le 91 dX1_putFull_82 (by decide) (by omega) (fun c2 => ?_) (fun c2 => ?_)
          · refine dig _ M (by omega) ?_ hp hR h_e fr
            rw [eM, if_neg (show ¬ k + 1 ≤ be by omega), if_neg (show ¬ 0 < be by omega), List.nil_append, show k + 1 - be = 0 + 1 from by omega, ek]
            rfl
          · skip
            refine v_aload_n dX1_putFull_85 rfl ?_
            refine v_bipush (iI 46) dX1_putFull_86 rfl ?_
            refine v_cV (av := [.int (iI 46)]) (st := []) zyX1_append lX1_43 h_34 rfl (p_pappend (d := 2) (x := 46) hp (by omega) (by decide)) dX1_putFull_88 rfl rfl (Nat.le_of_ble_eq_true rfl) (by omega) (Nat.le_of_ble_eq_true rfl) (Nat.le_of_ble_eq_true rfl) (Or.inl (fun _ _ _ q => ZN q)) (fun r9 G1 n9 q9 => ?_)
            obtain ⟨rfl, q9n, hp, fr9⟩ := q9
            have q9n := q9n.symm
            subst q9n
            refine dig _ _ (by rw [List.length_append, List.length_singleton]; omega) ?_ hp (hR.fr fr9 (by decide) (by decide)) ((fr9 e (by simp [he])).trans h_e) (fr.tr fr9 (by decide))
            rw [eM, if_neg (show ¬ k + 1 ≤ be by omega), if_pos (show 0 < be by omega), show k + 1 - be = 0 + 1 from by omega, ek, List.append_assoc]
            rfl
      obtain ⟨f, h_34, -⟩ := id hp
      refine v_iload_n dX1_putFull_54 rfl ?_
      refine v_sipush (iI 160) dX1_putFull_55 rfl ?_
      refine w_icmp_ge 111 dX1_putFull_58 (by decide) (by omega) (by decide) (fun c1 => ?_) (fun c1 => ?_)
      · exact absurd c1 (by omega)
      · skip
        refine v_iload_n dX1_putFull_61 rfl ?_
        refine v_iload_n dX1_putFull_62 rfl ?_
        refine w_icmp_le 76 dX1_putFull_63 (by decide) (by omega) (by omega) (fun c2 => ?_) (fun c2 => ?_)
        · exact goon
        · skip
          refine v_aload_n dX1_putFull_66 rfl ?_
          refine v_get fX1_23 dX1_putFull_67 h_34 (by decide) rfl ?_
          obtain ⟨u937, f937, h_37, -⟩ := id hR
          refine v_cV (av := []) (st := []) zyX7_isNought lX1_73 h_37 rfl (p_isNought (d := 2) hR) dX1_putFull_70 rfl rfl (Nat.le_of_ble_eq_true rfl) (by omega) (Nat.le_of_ble_eq_true rfl) (Nat.le_of_ble_eq_true rfl) (Or.inl (fun _ _ _ q => ZN q)) (fun r9 K1 n9 q9 => ?_)
          obtain ⟨rfl, q9n, q9h⟩ := q9
          have q9n := q9n.symm
          subst q9n
          have q9h := q9h.symm
          subst q9h
          refine w_ifb_ne 111 dX1_putFull_73 (by decide) (fun c3 => ?_) (fun c3 => ?_)
          · exfalso
            have c3 := of_decide_eq_true c3
            have h1 := hK3 k (by omega) (by omega)
            have h2 := Nat.div_pos h1 (Nat.pow_pos (n := k) (show 0 < 10 by decide))
            omega
          · exact goon
  refine v_iconst (iI 0) dX1_putFull_52 rfl ?_
  refine v_istore_n (i := 3) (lv' := [(3, .int (iI 0)), (2, .int (iI (be:Nat))), (0, .ref 34), (1, .ref e)]) dX1_putFull_53 rfl (by decide) rfl ?_
  refine w_sub (lv2 := [(0, .ref 34), (1, .ref e), (2, .int (iI (be:Nat))), (3, .int (iI 0))]) [2, 3, 1, 0] rfl ?_
  exact loop K 0 0 [] _ (by omega) rfl (by rw [if_pos (by omega)]; rfl) hp (by rw [Nat.pow_zero, Nat.div_one]; exact hR) h_e fr
