/-! Wide: growOften, shiftUp, window, anyBelow -/
set_option maxHeartbeats 4000000 in
set_option maxRecDepth 100000 in
theorem p_growOften {d n a b v x t : Nat} {h : zH} (hw : WD h a b v) (hd : 2 ≤ d) (hx : x < 4294967296) (ht : t < 1000000) (hb : v * x ^ t < 2 ^ 512) :
    zM yX7_growOften cX7_growOften 5 none d 0 0 [.ref a, .long (jL (x:Nat)), .int (iI (t:Nat))] h n (fun r h' n' => r = none ∧ n' = n ∧ WD h' a b (v * x ^ t) ∧ zFr [a, b] h h') := by
  refine zM_of zyX7_growOften rfl (Nat.le_of_ble_eq_true rfl) (fun X hX => ?_)
  have fr : zFr [a, b] h h := zFr.rf
  refine v_iconst (iI 0) dX7_growOften_0 rfl ?_
  refine v_istore (i := 4) (lv' := [(4, .int (iI 0)), (0, .ref a), (1, .long (jL (x:Nat))), (3, .int (iI (t:Nat)))]) dX7_growOften_1 (by decide) rfl ?_
  refine w_sub (lv2 := [(0, .ref a), (1, .long (jL (x:Nat))), (3, .int (iI (t:Nat))), (4, .int (iI 0))]) [1, 2, 3, 0] rfl ?_
  have loop : ∀ (m k w : Nat) (i : Int) (H : zH), k + m = t → i = k → WD H a b w → w * x ^ m = v * x ^ t → zFr [a, b] h H → (zV X (fun r h' n' => r = none ∧ n' = n ∧ WD h' a b (v * x ^ t) ∧ zFr [a, b] h h') cX7_growOften 5 RX7 none d 0 0 3 [(0, .ref a), (1, .long (jL (x:Nat))), (3, .int (iI (t:Nat))), (4, .int (iI i))] [] H n 0 0) := by
    intro m
    induction m with
    | zero =>
      intro k w i H hk ei hw inv fr
      refine v_iload dX7_growOften_3 rfl ?_
      refine v_iload_n dX7_growOften_5 rfl ?_
      refine w_icmp_ge 21 dX7_growOften_6 (by decide) (by omega) (by omega) (fun c1 => ?_) (fun c1 => ?_)
      · rw [Nat.pow_zero, Nat.mul_one] at inv
        rw [inv] at hw
        exact v_vret dX7_growOften_21 trivial (Nat.le_of_ble_eq_true rfl) (Nat.le_of_ble_eq_true rfl) ⟨rfl, rfl, hw, fr⟩
      · exact absurd c1 (by omega)
    | succ m ih =>
      intro k w i H hk ei hw inv fr
      refine v_iload dX7_growOften_3 rfl ?_
      refine v_iload_n dX7_growOften_5 rfl ?_
      refine w_icmp_ge 21 dX7_growOften_6 (by decide) (by omega) (by omega) (fun c1 => ?_) (fun c1 => ?_)
      · exact absurd c1 (by omega)
      · have e : w * x * x ^ m = v * x ^ t := by rw [← inv, Nat.pow_succ, Nat.mul_assoc, Nat.mul_comm x]
        have hb2 : w * x + 0 < 2 ^ 512 := by
          rcases Nat.eq_zero_or_pos x with q | q
          · rw [q]; omega
          · have := Nat.le_mul_of_pos_right (w * x) (Nat.pow_pos (n := m) q)
            omega
        obtain ⟨u9, f9, h_a, hrest⟩ := id hw
        refine v_aload_n dX7_growOften_9 rfl ?_
        refine v_lload_n dX7_growOften_10 rfl ?_
        refine v_lconst (jL 0) dX7_growOften_11 rfl ?_
        refine v_cV (av := [.long (jL (x:Nat)), .long (jL 0)]) (st := []) zyX7_grow lX7_34 h_a rfl (p_grow (d := 1) (x := x) (y := 0) hw (by decide) hx (by decide) hb2) dX7_growOften_12 rfl rfl (Nat.le_of_ble_eq_true rfl) (by omega) (Nat.le_of_ble_eq_true rfl) (Nat.le_of_ble_eq_true rfl) (Or.inl (fun _ _ _ q => ZN q)) (fun r9 H9 n9 q9 => ?_)
        obtain ⟨rfl, q9n, hw9, fr9⟩ := q9
        have q9n := q9n.symm
        subst q9n
        refine w_iinc (lv' := [(4, .int (iI (i + 1))), (0, .ref a), (1, .long (jL (x:Nat))), (3, .int (iI (t:Nat)))]) dX7_growOften_15 rfl (by decide) rfl ?_
        refine v_goto 3 dX7_growOften_18 (by decide) ?_
        refine w_sub (lv2 := [(0, .ref a), (1, .long (jL (x:Nat))), (3, .int (iI (t:Nat))), (4, .int (iI (i + 1)))]) [1, 2, 3, 0] rfl ?_
        exact ih (k + 1) (w * x + 0) (i + 1) _ (by omega) (by omega) hw9 e (fr.tr fr9 (by simp))
  exact loop t 0 v 0 h (by omega) rfl hw rfl fr
theorem wat_all (V : Nat) : ∀ k, wv (wat V) k = V % 2 ^ (32 * k)
  | 0 => by rw [Nat.mul_zero, Nat.pow_zero, Nat.mod_one]; rfl
  | k + 1 => by
    show wv (wat V) k + wat V k * 2 ^ (32 * k) = _
    rw [wat_all V k, p32, Nat.mul_comm 4294967296, Nat.mod_mul, Nat.mul_comm (wat V k)]; rfl
theorem wat_wb (V : Nat) : wb (wat V) := fun i => wat_lt V i
theorem sh2 {pair p : Nat} (hp : p ≤ 32) : pair * 2 ^ p % 18446744073709551616 / 4294967296 = pair / 2 ^ (32 - p) % 4294967296 := by
  have e1 : (18446744073709551616 : Nat) = (2 ^ (32 - p) * 4294967296) * 2 ^ p := by
    rw [Nat.mul_right_comm, ← Nat.pow_add, show 32 - p + p = 32 from by omega]
  have e2 : (4294967296 : Nat) = 2 ^ (32 - p) * 2 ^ p := by rw [← Nat.pow_add, show 32 - p + p = 32 from by omega]
  rw [e1, Nat.mul_mod_mul_right]
  conv => lhs; rw [e2]
  rw [Nat.mul_div_mul_right _ _ (p_pos p), ← e2, Nat.mod_mul_right_div_self]
theorem pair_at (v q : Nat) : wat v (q + 1) * 4294967296 + wat v q = v / 2 ^ (32 * q) % 18446744073709551616 := by
  unfold wat
  rw [p32, Nat.mul_comm 4294967296 (2 ^ (32 * q)), ← Nat.div_div_eq_div_mul, show (18446744073709551616 : Nat) = 4294967296 * 4294967296 from rfl, Nat.mod_mul]
  omega
theorem wat_sh {v w p j : Nat} (hp : p < 32) (hj : j < w) : wat (v * 2 ^ (32 * w + p)) j = 0 := by
  unfold wat
  obtain ⟨m, rfl⟩ : ∃ m, w = j + 1 + m := ⟨w - j - 1, by omega⟩
  rw [show 32 * (j + 1 + m) + p = 32 * j + (32 + (32 * m + p)) from by omega, Nat.pow_add, Nat.pow_add, ← Nat.mul_assoc, Nat.mul_comm v, Nat.mul_assoc, Nat.mul_div_cancel_left _ (p_pos _), Nat.mul_comm v]
  show 4294967296 * _ * v % 4294967296 = 0
  rw [Nat.mul_assoc, Nat.mul_mod_right]
theorem wat_sh0 {v w p : Nat} : wat (v * 2 ^ (32 * w + p)) w = wat v 0 * 2 ^ p % 4294967296 := by
  unfold wat
  rw [Nat.pow_add, ← Nat.mul_assoc, Nat.mul_right_comm, Nat.mul_div_cancel _ (p_pos _), Nat.mul_zero, Nat.pow_zero, Nat.div_one, Nat.mod_mul_mod]
theorem wat_sh1 {v w p q : Nat} (hp : p < 32) : wat (v * 2 ^ (32 * w + p)) (w + (q + 1)) = (v / 2 ^ (32 * q)) / 2 ^ (32 - p) % 4294967296 := by
  unfold wat
  have e : 2 ^ (32 * (w + (q + 1))) = (2 ^ (32 * q) * 2 ^ (32 - p)) * 2 ^ (32 * w + p) := by
    rw [← Nat.pow_add, ← Nat.pow_add]; congr 1; omega
  rw [e, Nat.mul_div_mul_right _ _ (p_pos _), Nat.div_div_eq_div_mul]
/-- the word j of v moved up by 32 w + p, as shiftUp makes it -/
theorem shift_word {v w p j : Nat} (hp : p < 32) : ((if j < w then 0 else wat v (j - w)) * 4294967296 + (if j < w + 1 then 0 else wat v (j - w - 1))) * 2 ^ p % 18446744073709551616 / 4294967296 = wat (v * 2 ^ (32 * w + p)) j := by
  rw [sh2 (by omega)]
  rcases Nat.lt_or_ge j w with q | q
  · rw [if_pos q, if_pos (by omega), wat_sh hp q, Nat.zero_mul, Nat.zero_add, Nat.zero_div]
  · rw [if_neg (by omega)]
    rcases Nat.eq_or_lt_of_le q with q | q
    · subst q
      rw [if_pos (by omega), Nat.sub_self, wat_sh0, Nat.add_zero]
      have e2 : (4294967296 : Nat) = 2 ^ p * 2 ^ (32 - p) := by rw [← Nat.pow_add, show p + (32 - p) = 32 from by omega]
      conv => lhs; lhs; rw [e2, ← Nat.mul_assoc]
      rw [Nat.mul_div_cancel _ (p_pos _)]
    · rw [if_neg (by omega)]
      obtain ⟨m, rfl⟩ : ∃ m, j = w + (m + 1) := ⟨j - w - 1, by omega⟩
      rw [wat_sh1 hp, show w + (m + 1) - w = m + 1 from by omega, show m + 1 - 1 = m from rfl, pair_at]
      have e : (18446744073709551616 : Nat) = 2 ^ (32 - p) * 2 ^ (32 + p) := by rw [← Nat.pow_add, show 32 - p + (32 + p) = 64 from by omega]
      rw [e, Nat.mod_mul_right_div_self, Nat.pow_add 2 32 p, Nat.mod_mul_right_mod]
theorem if_word {u i w : Nat} {f g : Nat → Nat} {x : Int} (hf : wb f) (hx : x = (i : Int) - w) (hg : ∀ j, j ≤ i → g j = f j) : (if x < 0 then 0 else if x.toNat < u then g x.toNat else 0) = (if i < w then 0 else wat (wv f u) (i - w)) := by
  subst hx
  by_cases q : i < w
  · rw [if_pos q, if_pos (by omega)]
  · rw [if_neg q, if_neg (by omega), show ((i : Int) - w).toNat = i - w from by omega]
    by_cases q2 : i - w < u
    · rw [if_pos q2, hg _ (by omega), wv_digit hf q2]
    · rw [if_neg q2, wv_top hf (by omega)]
set_option maxHeartbeats 4000000 in
set_option maxRecDepth 100000 in
theorem p_shiftUp {d n a b v t : Nat} {h : zH} (hw : WD h a b v) (hd : 1 ≤ d) (ht : t < 100000) (hb : v * 2 ^ t < 2 ^ 512) :
    zM yX7_shiftUp cX7_shiftUp 7 none d 0 0 [.ref a, .int (iI (t:Nat))] h n (fun r h' n' => r = none ∧ n' = n ∧ WD h' a b (v * 2 ^ t) ∧ zFr [a, b] h h') := by
  obtain ⟨u, f, h_a, h_b, hf, hu, hv, -⟩ := hw
  have ne_b_a := wne h_a h_b
  have ne_a_b := ne_b_a.symm
  refine zM_of zyX7_shiftUp rfl (Nat.le_of_ble_eq_true rfl) (fun X hX => ?_)
  have fr : zFr [a, b] h h := zFr.rf
  obtain ⟨w, p, ew, ep, et⟩ : ∃ w p : Nat, t / 32 = w ∧ t % 32 = p ∧ t = 32 * w + p := ⟨_, _, rfl, rfl, by omega⟩
  refine v_iload_n dX7_shiftUp_0 rfl ?_
  refine v_iconst (iI 5) dX7_shiftUp_1 rfl ?_
  refine w_ishr dX7_shiftUp_2 5 32 rfl rfl (by decide) (by omega) ?_
  refine w_ei (w:Nat) (by omega) ?_
  refine v_istore_n (i := 2) (lv' := [(2, .int (iI (w:Nat))), (0, .ref a), (1, .int (iI (t:Nat)))]) dX7_shiftUp_3 rfl (by decide) rfl ?_
  refine v_iload_n dX7_shiftUp_4 rfl ?_
  refine v_bipush (iI 31) dX7_shiftUp_5 rfl ?_
  refine w_iandm dX7_shiftUp_7 5 32 rfl (by decide) rfl ?_
  refine w_ei (p:Nat) (by omega) ?_
  refine v_istore_n (i := 3) (lv' := [(3, .int (iI (p:Nat))), (2, .int (iI (w:Nat))), (0, .ref a), (1, .int (iI (t:Nat)))]) dX7_shiftUp_8 rfl (by decide) rfl ?_
  refine v_bipush (iI 15) dX7_shiftUp_9 rfl ?_
  refine v_istore (i := 4) (lv' := [(4, .int (iI 15)), (3, .int (iI (p:Nat))), (2, .int (iI (w:Nat))), (0, .ref a), (1, .int (iI (t:Nat)))]) dX7_shiftUp_11 (by decide) rfl ?_
  refine w_sub (lv2 := [(0, .ref a), (2, .int (iI (w:Nat))), (3, .int (iI (p:Nat))), (4, .int (iI 15))]) [3, 2, 1, 0] rfl ?_
  have loop : ∀ (k : Nat) (i : Int) (g : Nat → Nat) (H : zH), k ≤ 16 → i = (k : Int) - 1 → wb g → (∀ j, j < k → g j = f j) → (∀ j, k ≤ j → j < 16 → g j = wat (v * 2 ^ t) j) → H a = oWide b u → H b = aN 16 g → zFr [a, b] h H → (zV X (fun r h' n' => r = none ∧ n' = n ∧ WD h' a b (v * 2 ^ t) ∧ zFr [a, b] h h') cX7_shiftUp 7 RX7 none d 0 0 13 [(0, .ref a), (2, .int (iI (w:Nat))), (3, .int (iI (p:Nat))), (4, .int (iI i))] [] H n 0 0) := by
    intro k
    induction k with
    | zero =>
      intro i g H hk ei hg hgf hgw h_a h_b fr
      refine v_iload dX7_shiftUp_13 rfl ?_
      refine w_if_lt 63 dX7_shiftUp_15 (by decide) (by omega) (fun c1 => ?_) (fun c1 => ?_)
      · skip
        refine v_aload_n dX7_shiftUp_63 rfl ?_
        refine v_bipush (iI 16) dX7_shiftUp_64 rfl ?_
        refine v_put (fs' := [.ref b, .int (iI 16)]) fX7_13 dX7_shiftUp_66 h_a (by decide) (Nat.le_of_ble_eq_true rfl) rfl rfl rfl (fun H1 eH1 => ?_)
        have h_a : H1 a = oWide b 16 := zf_same eH1
        have h_b := (zf_ne eH1 ne_b_a).trans h_b
        have fr := fr.put eH1 (by simp)
        refine v_aload_n dX7_shiftUp_69 rfl ?_
        refine v_cV (av := []) (st := []) zyX7_trim lX7_17 h_a rfl (p_trim (d := 0) (u0 := 16) h_a h_b hg (by decide)) dX7_shiftUp_70 rfl rfl (Nat.le_of_ble_eq_true rfl) (by omega) (Nat.le_of_ble_eq_true rfl) (Nat.le_of_ble_eq_true rfl) (Or.inl (fun _ _ _ q => ZN q)) (fun r9 H9 n9 q9 => ?_)
        obtain ⟨rfl, q9n, hw9, fr9⟩ := q9
        have q9n := q9n.symm
        subst q9n
        have e : wv g 16 = v * 2 ^ t := by
          rw [wv_congr 16 (fun j hj => hgw j (by omega) hj), wat_all, Nat.mod_eq_of_lt hb]
        rw [e] at hw9
        exact v_vret dX7_shiftUp_73 trivial (Nat.le_of_ble_eq_true rfl) (Nat.le_of_ble_eq_true rfl) ⟨rfl, rfl, hw9, fr.tr fr9 (by simp)⟩
      · exact absurd c1 (by omega)
    | succ k ih =>
      intro i g H hk ei hg hgf hgw h_a h_b fr
      refine v_iload dX7_shiftUp_13 rfl ?_
      refine w_if_lt 63 dX7_shiftUp_15 (by decide) (by omega) (fun c1 => ?_) (fun c1 => ?_)
      · exact absurd c1 (by omega)
      · obtain ⟨A, eA⟩ : ∃ A, (if k < w then 0 else wat v (k - w)) = A := ⟨_, rfl⟩
        obtain ⟨B, eB⟩ : ∃ B, (if k < w + 1 then 0 else wat v (k - w - 1)) = B := ⟨_, rfl⟩
        have hA : A < 4294967296 := by rw [← eA]; split; decide; exact wat_lt _ _
        have hB : B < 4294967296 := by rw [← eB]; split; decide; exact wat_lt _ _
        refine v_aload_n dX7_shiftUp_18 rfl ?_
        refine v_iload dX7_shiftUp_19 rfl ?_
        refine v_iload_n dX7_shiftUp_21 rfl ?_
        refine w_isub dX7_shiftUp_22 ?_
        refine v_cV (av := [.int (iI (i - (w:Nat)))]) (st := []) zyX7_wordAt lX7_38 h_a rfl (p_wordAt0 (d := 0) h_a h_b hg hu (by omega)) dX7_shiftUp_23 rfl rfl (Nat.le_of_ble_eq_true rfl) (by omega) (Nat.le_of_ble_eq_true rfl) (Nat.le_of_ble_eq_true rfl) (Or.inl (fun _ _ _ q => ZN q)) (fun r9 K1 n9 q9 => ?_)
        obtain ⟨rfl, q9n, q9h⟩ := q9
        have q9n := q9n.symm
        subst q9n
        have q9h := q9h.symm
        subst q9h
        rw [if_word (i := k) (w := w) hf (by omega) (fun j hj => hgf j (by omega)), hv, eA]
        refine v_bipush (iI 32) dX7_shiftUp_26 rfl ?_
        refine w_lshl dX7_shiftUp_28 32 4294967296 rfl rfl (by decide) ?_
        refine v_aload_n dX7_shiftUp_29 rfl ?_
        refine v_iload dX7_shiftUp_30 rfl ?_
        refine v_iload_n dX7_shiftUp_32 rfl ?_
        refine w_isub dX7_shiftUp_33 ?_
        refine v_iconst (iI 1) dX7_shiftUp_34 rfl ?_
        refine w_isub dX7_shiftUp_35 ?_
        refine v_cV (av := [.int (iI ((i - (w:Nat)) - 1))]) (st := [.long (jL ((A:Nat) * 4294967296))]) zyX7_wordAt lX7_38 h_a rfl (p_wordAt0 (d := 0) h_a h_b hg hu (by omega)) dX7_shiftUp_36 rfl rfl (Nat.le_of_ble_eq_true rfl) (by omega) (Nat.le_of_ble_eq_true rfl) (Nat.le_of_ble_eq_true rfl) (Or.inl (fun _ _ _ q => ZN q)) (fun r9 K2 n9 q9 => ?_)
        obtain ⟨rfl, q9n, q9h⟩ := q9
        have q9n := q9n.symm
        subst q9n
        have q9h := q9h.symm
        subst q9h
        rw [if_word (i := k) (w := w + 1) hf (by omega) (fun j hj => hgf j (by omega)), hv, Nat.sub_add_eq, eB]
        refine w_lor dX7_shiftUp_39 32 4294967296 rfl (by decide) (by omega) (by omega) ?_
        refine w_el (A * 4294967296 + B:Nat) (by omega) ?_
        refine v_lstore (i := 5) (lv' := [(5, .long (jL (A * 4294967296 + B:Nat))), (0, .ref a), (2, .int (iI (w:Nat))), (3, .int (iI (p:Nat))), (4, .int (iI i))]) dX7_shiftUp_40 (by decide) rfl ?_
        refine v_aload_n dX7_shiftUp_42 rfl ?_
        refine v_get fX7_9 dX7_shiftUp_43 h_a (by decide) rfl ?_
        refine v_iload dX7_shiftUp_46 rfl ?_
        refine v_lload dX7_shiftUp_48 rfl ?_
        refine v_iload_n dX7_shiftUp_50 rfl ?_
        refine w_lshl dX7_shiftUp_51 p (2 ^ p) rfl (by omega) (by omega) ?_
        refine w_topl ((A * 4294967296 + B) * 2 ^ p % 18446744073709551616 : Nat) (by simp) ?_
        refine v_bipush (iI 32) dX7_shiftUp_52 rfl ?_
        refine w_lushr dX7_shiftUp_54 32 4294967296 rfl rfl (by decide) (by omega) ?_
        refine w_el (wat (v * 2 ^ t) k:Nat) (by rw [et, ← shift_word (by omega), eA, eB]; simp) ?_
        refine w_l2i dX7_shiftUp_55 ?_
        refine w_nast dX7_shiftUp_56 h_b k (by omega) (by omega) (by decide) (wat (v * 2 ^ t) k) (by omega) (fun H1 eH1 => ?_)
        obtain ⟨F1, eF1⟩ : ∃ zz9, zz9 = zup g k (wat (v * 2 ^ t) k) := ⟨_, rfl⟩
        rw [← eF1] at eH1
        have h_b : H1 b = aN 16 F1 := zf_same eH1
        have h_a := (zf_ne eH1 ne_a_b).trans h_a
        have fr := fr.put eH1 (by simp)
        refine w_iinc (lv' := [(4, .int (iI (i + (-1)))), (5, .long (jL (A * 4294967296 + B:Nat))), (0, .ref a), (2, .int (iI (w:Nat))), (3, .int (iI (p:Nat)))]) dX7_shiftUp_57 rfl (by decide) rfl ?_
        refine v_goto 13 dX7_shiftUp_60 (by decide) ?_
        refine w_sub (lv2 := [(0, .ref a), (2, .int (iI (w:Nat))), (3, .int (iI (p:Nat))), (4, .int (iI (i + (-1))))]) [2, 3, 4, 0] rfl ?_
        exact ih (i + -1) F1 _ (by omega) (by omega) (by rw [eF1]; exact wb_up hg (wat_lt _ _)) (fun j hj => by rw [eF1, zup_ne _ _ (by omega)]; exact hgf j (by omega)) (fun j h1 h2 => by
          rw [eF1]
          by_cases q : j = k
          · rw [q, zup_same]
          · rw [zup_ne _ _ q]; exact hgw j (by omega) h2) h_a h_b fr
  exact loop 16 15 f h (by decide) rfl hf (fun _ _ => rfl) (fun j h1 h2 => by omega) h_a h_b fr
