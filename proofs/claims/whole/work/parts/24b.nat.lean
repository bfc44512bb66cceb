/-! The reference's Nat: add, less, times, divide, shift, bit -/
theorem nadd_step {G c P F W fk wk q r : Nat} (h1 : G + c * P = F + W) (e : 1073741824 * q + r = fk + wk + c) : G + r * P + q * (1073741824 * P) = (F + fk * P) + (W + P * wk) := by
  have h2 := congrArg (· * P) e
  simp only [Nat.add_mul] at h2
  have e1 : q * (1073741824 * P) = 1073741824 * q * P := by rw [← Nat.mul_assoc, Nat.mul_comm q]
  rw [e1, Nat.mul_comm P wk]
  omega
theorem nv_hi {f : Nat → Nat} (hf : nw f) {u k : Nat} : nv f u % 2 ^ (30 * (k + 1)) = nv f u % 2 ^ (30 * k) + 2 ^ (30 * k) * (if k < u then f k else 0) := by
  rw [nmod_next]
  by_cases q : k < u
  · rw [if_pos q, nv_digit hf q]
  · rw [if_neg q, nv_top hf (by omega)]
set_option maxHeartbeats 4000000 in
set_option maxRecDepth 100000 in
theorem p_nadd {d n a b c e v w : Nat} {h : zH} (hw : ND h a b v) (hw2 : ND h c e w) (hne : c ≠ a ∧ c ≠ b ∧ e ≠ a ∧ e ≠ b) (hv9 : v < 2 ^ 12000) (hw9 : w < 2 ^ 12000) (hd : 1 ≤ d) :
    zM yX9_add cX9_add 7 none d 0 0 [.ref a, .ref c] h n (fun r h' n' => r = none ∧ n' = n ∧ ND h' a b (v + w) ∧ zFr [a, b] h h') := by
  obtain ⟨u, f, h_a, h_b, hf, hu, hv, ht⟩ := hw
  obtain ⟨u2, g, h_c, h_e, hg, hu2, hv2, ht2⟩ := hw2
  have hu9 : u ≤ 400 := ND.len ht (by rw [hv]; exact hv9)
  have hu8 : u2 ≤ 400 := ND.len ht2 (by rw [hv2]; exact hw9)
  have ne_b_a := wne h_a h_b
  have ne_a_b := ne_b_a.symm
  have ne_c_a := hne.1
  have ne_c_b := hne.2.1
  have ne_e_a := hne.2.2.1
  have ne_e_b := hne.2.2.2
  refine zM_of zyX9_add rfl (Nat.le_of_ble_eq_true rfl) (fun X hX => ?_)
  have fr : zFr [a, b] h h := zFr.rf
  obtain ⟨N, eN⟩ : ∃ N, max u u2 = N := ⟨_, rfl⟩
  have hvN : v < 2 ^ (30 * N) := Nat.lt_of_lt_of_le (by rw [← hv]; exact nv_lt hf u) (Nat.pow_le_pow_right (by decide) (by omega))
  have hwN : w < 2 ^ (30 * N) := Nat.lt_of_lt_of_le (by rw [← hv2]; exact nv_lt hg u2) (Nat.pow_le_pow_right (by decide) (by omega))
  refine v_aload_n dX9_add_0 rfl ?_
  refine v_get fX9_15 dX9_add_1 h_a (by decide) rfl ?_
  refine v_aload_n dX9_add_4 rfl ?_
  refine v_get fX9_15 dX9_add_5 h_c (by decide) rfl ?_
  refine v_cS (av := [.int (iI (u:Nat)), .int (iI (u2:Nat))]) (st := []) zyJ9_max_7cf53 lX9_27 (p_max (d := 0) (by omega) (by omega)) dX9_add_8 rfl rfl (Nat.le_of_ble_eq_true rfl) (by omega) (Nat.le_of_ble_eq_true rfl) (Nat.le_of_ble_eq_true rfl) (Or.inl (fun _ _ _ q => ZN q)) (fun r9 K1 n9 q9 => ?_)
  obtain ⟨rfl, q9n, q9h⟩ := q9
  have q9n := q9n.symm
  subst q9n
  have q9h := q9h.symm
  subst q9h
  refine w_ei (N:Nat) (by omega) ?_
  refine v_istore_n (i := 2) (lv' := [(2, .int (iI (N:Nat))), (0, .ref a), (1, .ref c)]) dX9_add_11 rfl (by decide) rfl ?_
  refine v_iconst (iI 0) dX9_add_12 rfl ?_
  refine v_istore_n (i := 3) (lv' := [(3, .int (iI 0)), (2, .int (iI (N:Nat))), (0, .ref a), (1, .ref c)]) dX9_add_13 rfl (by decide) rfl ?_
  refine v_iconst (iI 0) dX9_add_14 rfl ?_
  refine v_istore (i := 4) (lv' := [(4, .int (iI 0)), (3, .int (iI 0)), (2, .int (iI (N:Nat))), (0, .ref a), (1, .ref c)]) dX9_add_15 (by decide) rfl ?_
  refine w_sub (lv2 := [(0, .ref a), (1, .ref c), (2, .int (iI (N:Nat))), (3, .int (iI 0)), (4, .int (iI 0))]) [3, 4, 2, 1, 0] rfl ?_
  have loop : ∀ (m k cr : Nat) (y z : Int) (f2 : Nat → Nat) (H : zH), k + m = N → y = k → z = cr → cr ≤ 1 → nw f2 → (∀ i, k ≤ i → f2 i = f i) → nv f2 k + cr * 2 ^ (30 * k) = v % 2 ^ (30 * k) + w % 2 ^ (30 * k) → H a = oNat b u → H b = aN 420 f2 → H c = oNat e u2 → H e = aN 420 g → zFr [a, b] h H → (zV X (fun r h' n' => r = none ∧ n' = n ∧ ND h' a b (v + w) ∧ zFr [a, b] h h') cX9_add 7 RX9 none d 0 0 17 [(0, .ref a), (1, .ref c), (2, .int (iI (N:Nat))), (3, .int (iI z)), (4, .int (iI y))] [] H n 0 0) := by
    intro m
    induction m with
    | zero =>
      intro k cr y z f2 H hk ey ez hcr hf2 hs inv h_a h_b h_c h_e fr
      have ek : k = N := by omega
      subst ek
      rw [Nat.mod_eq_of_lt hvN, Nat.mod_eq_of_lt hwN] at inv
      refine v_iload dX9_add_17 rfl ?_
      refine v_iload_n dX9_add_19 rfl ?_
      refine w_icmp_ge 99 dX9_add_20 (by decide) (by omega) (by omega) (fun c1 => ?_) (fun c1 => ?_)
      · skip
        refine v_aload_n dX9_add_99 rfl ?_
        refine v_get fX9_9 dX9_add_100 h_a (by decide) rfl ?_
        refine v_iload_n dX9_add_103 rfl ?_
        refine v_iload_n dX9_add_104 rfl ?_
        refine w_nast dX9_add_105 h_b k (by omega) (by omega) (by decide) cr (by omega) (fun H1 eH1 => ?_)
        obtain ⟨F1, eF1⟩ : ∃ zz9, zz9 = zup f2 k cr := ⟨_, rfl⟩
        rw [← eF1] at eH1
        have h_b : H1 b = aN 420 F1 := zf_same eH1
        have h_a := (zf_ne eH1 ne_a_b).trans h_a
        have h_c := (zf_ne eH1 ne_c_b).trans h_c
        have h_e := (zf_ne eH1 ne_e_b).trans h_e
        have fr := fr.put eH1 (by simp)
        refine v_aload_n dX9_add_106 rfl ?_
        refine v_iload_n dX9_add_107 rfl ?_
        refine v_iconst (iI 1) dX9_add_108 rfl ?_
        refine w_iadd dX9_add_109 ?_
        refine w_ei (k + 1:Nat) (by omega) ?_
        refine v_cV (av := [.int (iI (k + 1:Nat))]) (st := []) zyX9_trim lX9_33 h_a rfl (p_ntrim (d := 0) h_a h_b (by rw [eF1]; exact nw_up hf2 (by omega)) (by omega)) dX9_add_110 rfl rfl (Nat.le_of_ble_eq_true rfl) (by omega) (Nat.le_of_ble_eq_true rfl) (Nat.le_of_ble_eq_true rfl) (Or.inl (fun _ _ _ q => ZN q)) (fun r9 G1 n9 q9 => ?_)
        obtain ⟨rfl, q9n, hq, fr9⟩ := q9
        have q9n := q9n.symm
        subst q9n
        rw [eF1, nv_up1, inv] at hq
        exact v_vret dX9_add_113 trivial (Nat.le_of_ble_eq_true rfl) (Nat.le_of_ble_eq_true rfl) ⟨rfl, rfl, hq, fr.tr fr9 (by simp)⟩
      · exact absurd c1 (by omega)
    | succ m ih =>
      intro k cr y z f2 H hk ey ez hcr hf2 hs inv h_a h_b h_c h_e fr
      have hfk := hf k
      have hgk := hg k
      have hsk := hs k (Nat.le_refl k)
      obtain ⟨x1, ex1⟩ : ∃ x1, (if k < u then f k else 0) = x1 := ⟨_, rfl⟩
      obtain ⟨x2, ex2⟩ : ∃ x2, (if k < u2 then g k else 0) = x2 := ⟨_, rfl⟩
      have hx1 : x1 < 1073741824 := by rw [← ex1]; split <;> omega
      have hx2 : x2 < 1073741824 := by rw [← ex2]; split <;> omega
      have j68 : (zV X (fun r h' n' => r = none ∧ n' = n ∧ ND h' a b (v + w) ∧ zFr [a, b] h h') cX9_add 7 RX9 none d 0 0 68 [(0, .ref a), (1, .ref c), (2, .int (iI (N:Nat))), (3, .int (iI (cr + x1:Nat))), (4, .int (iI y))] [.int (iI (x2:Nat)), .long (jL (cr + x1:Nat))] H n 0 0) := by
        refine w_i2l dX9_add_68 (by omega) ?_
        refine w_ladd dX9_add_69 ?_
        obtain ⟨s, es⟩ : ∃ s, x1 + x2 + cr = s := ⟨_, rfl⟩
        refine w_el (s:Nat) (by omega) ?_
        refine v_lstore (i := 5) (lv' := [(5, .long (jL (s:Nat))), (0, .ref a), (1, .ref c), (2, .int (iI (N:Nat))), (3, .int (iI (cr + x1:Nat))), (4, .int (iI y))]) dX9_add_70 (by decide) rfl ?_
        refine v_aload_n dX9_add_72 rfl ?_
        refine v_get fX9_9 dX9_add_73 h_a (by decide) rfl ?_
        refine v_iload dX9_add_76 rfl ?_
        refine v_lload dX9_add_78 rfl ?_
        refine v_ldc2_w (v := jL 1073741823) kX9_19 dX9_add_80 ?_
        refine w_landm dX9_add_83 30 1073741824 rfl (by decide) rfl ?_
        refine w_l2i dX9_add_84 ?_
        refine w_nast dX9_add_85 h_b k (by omega) (by omega) (by decide) (s % 1073741824) (by omega) (fun H1 eH1 => ?_)
        obtain ⟨F1, eF1⟩ : ∃ zz9, zz9 = zup f2 k (s % 1073741824) := ⟨_, rfl⟩
        rw [← eF1] at eH1
        have h_b : H1 b = aN 420 F1 := zf_same eH1
        have h_a := (zf_ne eH1 ne_a_b).trans h_a
        have h_c := (zf_ne eH1 ne_c_b).trans h_c
        have h_e := (zf_ne eH1 ne_e_b).trans h_e
        have fr := fr.put eH1 (by simp)
        refine v_lload dX9_add_86 rfl ?_
        refine v_bipush (iI 30) dX9_add_88 rfl ?_
        refine w_lshr dX9_add_90 30 1073741824 rfl rfl (by decide) (by omega) ?_
        refine w_l2i dX9_add_91 ?_
        refine v_istore_n (i := 3) (lv' := [(3, .int (iI ((s:Nat) / 1073741824))), (5, .long (jL (s:Nat))), (0, .ref a), (1, .ref c), (2, .int (iI (N:Nat))), (4, .int (iI y))]) dX9_add_92 rfl (by decide) rfl ?_
        refine w_iinc (lv' := [(4, .int (iI (y + 1))), (3, .int (iI ((s:Nat) / 1073741824))), (5, .long (jL (s:Nat))), (0, .ref a), (1, .ref c), (2, .int (iI (N:Nat)))]) dX9_add_93 rfl (by decide) rfl ?_
        refine v_goto 17 dX9_add_96 (by decide) ?_
        refine w_sub (lv2 := [(0, .ref a), (1, .ref c), (2, .int (iI (N:Nat))), (3, .int (iI ((s:Nat) / 1073741824))), (4, .int (iI (y + 1)))]) [3, 4, 5, 1, 0] rfl ?_
        refine ih (k + 1) (s / 1073741824) (y + 1) _ F1 _ (by omega) (by omega) (by omega) (by omega) (by rw [eF1]; exact nw_up hf2 (by omega)) (fun i hi => by rw [eF1, zup_ne _ _ (by omega)]; exact hs i (by omega)) ?_ h_a h_b h_c h_e fr
        rw [eF1, nv_up1, ← hv, ← hv2, nv_hi hf, nv_hi hg, p30, ex1, ex2, Nat.add_right_comm (nv f u % _) _ (_ + _), hv, hv2]
        have := nadd_step (G := nv f2 k) (c := cr) (P := 2 ^ (30 * k)) (F := v % 2 ^ (30 * k)) (W := w % 2 ^ (30 * k)) (fk := x1) (wk := x2) (q := s / 1073741824) (r := s % 1073741824) inv (by rw [es]; exact Nat.div_add_mod s 1073741824)
        rw [Nat.mul_comm (2 ^ (30 * k)) x1]
        omega
      have j44 : (zV X (fun r h' n' => r = none ∧ n' = n ∧ ND h' a b (v + w) ∧ zFr [a, b] h h') cX9_add 7 RX9 none d 0 0 44 [(0, .ref a), (1, .ref c), (2, .int (iI (N:Nat))), (3, .int (iI z)), (4, .int (iI y))] [.int (iI (x1:Nat)), .int (iI z)] H n 0 0) := by
        refine w_iadd dX9_add_44 ?_
        refine w_ei (cr + x1:Nat) (by omega) ?_
        refine v_istore_n (i := 3) (lv' := [(3, .int (iI (cr + x1:Nat))), (0, .ref a), (1, .ref c), (2, .int (iI (N:Nat))), (4, .int (iI y))]) dX9_add_45 rfl (by decide) rfl ?_
        refine v_iload_n dX9_add_46 rfl ?_
        refine w_i2l dX9_add_47 (by omega) ?_
        refine v_iload dX9_add_48 rfl ?_
        refine v_aload_n dX9_add_50 rfl ?_
        refine v_get fX9_15 dX9_add_51 h_c (by decide) rfl ?_
        refine w_icmp_ge 67 dX9_add_54 (by decide) (by omega) (by omega) (fun c1 => ?_) (fun c1 => ?_)
        · skip
          refine v_iconst (iI 0) dX9_add_67 rfl ?_
          refine w_ei (x2:Nat) (by rw [← ex2, if_neg (by omega)]; rfl) ?_
          refine w_sub (lv2 := [(0, .ref a), (1, .ref c), (2, .int (iI (N:Nat))), (3, .int (iI (cr + x1:Nat))), (4, .int (iI y))]) [1, 2, 3, 0, 4] rfl ?_
          exact j68
        · skip
          refine v_aload_n dX9_add_57 rfl ?_
          refine v_get fX9_9 dX9_add_58 h_c (by decide) rfl ?_
          refine v_iload dX9_add_61 rfl ?_
          refine w_nald dX9_add_63 h_e k (by omega) (by omega) (by decide) ?_
          refine v_goto 68 dX9_add_64 (by decide) ?_
          refine w_ei (x2:Nat) (by rw [← ex2, if_pos (by omega)]) ?_
          refine w_sub (lv2 := [(0, .ref a), (1, .ref c), (2, .int (iI (N:Nat))), (3, .int (iI (cr + x1:Nat))), (4, .int (iI y))]) [1, 2, 3, 0, 4] rfl ?_
          exact j68
      refine v_iload dX9_add_17 rfl ?_
      refine v_iload_n dX9_add_19 rfl ?_
      refine w_icmp_ge 99 dX9_add_20 (by decide) (by omega) (by omega) (fun c1 => ?_) (fun c1 => ?_)
      · exact absurd c1 (by omega)
      · skip
        refine v_iload_n dX9_add_23 rfl ?_
        refine v_iload dX9_add_24 rfl ?_
        refine v_aload_n dX9_add_26 rfl ?_
        refine v_get fX9_15 dX9_add_27 h_a (by decide) rfl ?_
        refine w_icmp_ge 43 dX9_add_30 (by decide) (by omega) (by omega) (fun c2 => ?_) (fun c2 => ?_)
        · skip
          refine v_iconst (iI 0) dX9_add_43 rfl ?_
          refine w_ei (x1:Nat) (by rw [← ex1, if_neg (by omega)]; rfl) ?_
          exact j44
        · skip
          refine v_aload_n dX9_add_33 rfl ?_
          refine v_get fX9_9 dX9_add_34 h_a (by decide) rfl ?_
          refine v_iload dX9_add_37 rfl ?_
          refine w_nald dX9_add_39 h_b k (by omega) (by omega) (by decide) ?_
          refine v_goto 44 dX9_add_40 (by decide) ?_
          refine w_ei (x1:Nat) (by rw [← ex1, if_pos (by omega), hsk]) ?_
          exact j44
  exact loop N 0 0 0 0 f _ (by omega) rfl rfl (by decide) hf (fun _ _ => rfl) (by rw [Nat.mul_zero, Nat.pow_zero, Nat.mod_one, Nat.mod_one]; rfl) h_a h_b h_c h_e fr
theorem nlow_step {G c P F W fk wk q r : Int} (h1 : G + c * P = F - W) (e : 1073741824 * q + r = fk - wk + c) : G + r * P + q * (1073741824 * P) = (F + fk * P) - (W + P * wk) := by
  have h2 := congrArg (· * P) e
  simp only [Int.add_mul, Int.sub_mul] at h2
  have e1 : q * (1073741824 * P) = 1073741824 * q * P := by rw [← Int.mul_assoc, Int.mul_comm q]
  rw [e1, Int.mul_comm P wk]
  omega
set_option maxHeartbeats 4000000 in
set_option maxRecDepth 100000 in
theorem p_nless {d n a b c e v w : Nat} {h : zH} (hw : ND h a b v) (hw2 : ND h c e w) (hne : c ≠ a ∧ c ≠ b ∧ e ≠ a ∧ e ≠ b) (hle : w ≤ v) (hd : 1 ≤ d) :
    zM yX9_less cX9_less 5 none d 0 0 [.ref a, .ref c] h n (fun r h' n' => r = none ∧ n' = n ∧ ND h' a b (v - w) ∧ zFr [a, b] h h') := by
  obtain ⟨u, f, h_a, h_b, hf, hu, hv, ht⟩ := hw
  obtain ⟨u2, g, h_c, h_e, hg, hu2, hv2, ht2⟩ := hw2
  have ne_b_a := wne h_a h_b
  have ne_a_b := ne_b_a.symm
  have ne_c_a := hne.1
  have ne_c_b := hne.2.1
  have ne_e_a := hne.2.2.1
  have ne_e_b := hne.2.2.2
  refine zM_of zyX9_less rfl (Nat.le_of_ble_eq_true rfl) (fun X hX => ?_)
  have fr : zFr [a, b] h h := zFr.rf
  refine v_iconst (iI 0) dX9_less_0 rfl ?_
  refine v_istore_n (i := 2) (lv' := [(2, .int (iI 0)), (0, .ref a), (1, .ref c)]) dX9_less_1 rfl (by decide) rfl ?_
  refine v_iconst (iI 0) dX9_less_2 rfl ?_
  refine v_istore_n (i := 3) (lv' := [(3, .int (iI 0)), (2, .int (iI 0)), (0, .ref a), (1, .ref c)]) dX9_less_3 rfl (by decide) rfl ?_
  refine w_sub (lv2 := [(0, .ref a), (1, .ref c), (2, .int (iI 0)), (3, .int (iI 0))]) [2, 3, 1, 0] rfl ?_
  have loop : ∀ (m k : Nat) (y le : Int) (f2 : Nat → Nat) (H : zH), k + m = u → y = k → (le = 0 ∨ le = 1) → nw f2 → (∀ i, k ≤ i → f2 i = f i) → (nv f2 k : Int) + -le * (2 ^ (30 * k) : Nat) = nv f k - (w % 2 ^ (30 * k) : Nat) → H a = oNat b u → H b = aN 420 f2 → H c = oNat e u2 → H e = aN 420 g → zFr [a, b] h H → (zV X (fun r h' n' => r = none ∧ n' = n ∧ ND h' a b (v - w) ∧ zFr [a, b] h h') cX9_less 5 RX9 none d 0 0 4 [(0, .ref a), (1, .ref c), (2, .int (iI le)), (3, .int (iI y))] [] H n 0 0) := by
    intro m
    induction m with
    | zero =>
      intro k y le f2 H hk ey hle2 hf2 hs inv h_a h_b h_c h_e fr
      have ek : k = u := by omega
      subst ek
      have h5 : v < 2 ^ (30 * k) := by rw [← hv]; exact nv_lt hf k
      rw [hv, Nat.mod_eq_of_lt (by omega)] at inv
      have h6 := nv_lt hf2 k
      refine v_iload_n dX9_less_4 rfl ?_
      refine v_aload_n dX9_less_5 rfl ?_
      refine v_get fX9_15 dX9_less_6 h_a (by decide) rfl ?_
      refine w_icmp_ge 69 dX9_less_9 (by decide) (by omega) (by omega) (fun c1 => ?_) (fun c1 => ?_)
      · skip
        refine v_aload_n dX9_less_69 rfl ?_
        refine v_aload_n dX9_less_70 rfl ?_
        refine v_get fX9_15 dX9_less_71 h_a (by decide) rfl ?_
        refine v_cV (av := [.int (iI (k:Nat))]) (st := []) zyX9_trim lX9_33 h_a rfl (p_ntrim (d := 0) h_a h_b hf2 hu) dX9_less_74 rfl rfl (Nat.le_of_ble_eq_true rfl) (by omega) (Nat.le_of_ble_eq_true rfl) (Nat.le_of_ble_eq_true rfl) (Or.inl (fun _ _ _ q => ZN q)) (fun r9 G1 n9 q9 => ?_)
        obtain ⟨rfl, q9n, hq, fr9⟩ := q9
        have q9n := q9n.symm
        subst q9n
        have e9 : nv f2 k = v - w := by
          rcases hle2 with z | z
          · rw [z] at inv; omega
          · rw [z] at inv; omega
        rw [e9] at hq
        exact v_vret dX9_less_77 trivial (Nat.le_of_ble_eq_true rfl) (Nat.le_of_ble_eq_true rfl) ⟨rfl, rfl, hq, fr.tr fr9 (by simp)⟩
      · exact absurd c1 (by omega)
    | succ m ih =>
      intro k y le f2 H hk ey hle2 hf2 hs inv h_a h_b h_c h_e fr
      have hfk := hf k
      have hgk := hg k
      have hsk := hs k (Nat.le_refl k)
      obtain ⟨x2, ex2⟩ : ∃ x2, (if k < u2 then g k else 0) = x2 := ⟨_, rfl⟩
      have hx2 : x2 < 1073741824 := by rw [← ex2]; split <;> omega
      have ex3 : nat w k = x2 := by
        rw [← ex2, ← hv2]
        by_cases q : k < u2
        · rw [if_pos q, nv_digit hg q]
        · rw [if_neg q, nv_top hg (by omega)]
      have j38 : (zV X (fun r h' n' => r = none ∧ n' = n ∧ ND h' a b (v - w) ∧ zFr [a, b] h h') cX9_less 5 RX9 none d 0 0 38 [(0, .ref a), (1, .ref c), (2, .int (iI le)), (3, .int (iI y))] [.int (iI (x2:Nat)), .int (iI ((f k : Int) - le))] H n 0 0) := by
        refine w_isub dX9_less_38 ?_
        obtain ⟨D, eD⟩ : ∃ yy9 : Int, ((f k : Int) - le) - (x2:Nat) = yy9 := ⟨_, rfl⟩
        rw [eD]
        have hD : -1073741824 ≤ D ∧ D < 1073741824 := by omega
        have j51 : ∀ l2 : Int, l2 = -(D / 1073741824) → (zV X (fun r h' n' => r = none ∧ n' = n ∧ ND h' a b (v - w) ∧ zFr [a, b] h h') cX9_less 5 RX9 none d 0 0 51 [(0, .ref a), (1, .ref c), (3, .int (iI y)), (4, .int (iI D))] [.int (iI l2)] H n 0 0) := by
          intro l2 el2
          refine v_istore_n (i := 2) (lv' := [(2, .int (iI l2)), (0, .ref a), (1, .ref c), (3, .int (iI y)), (4, .int (iI D))]) dX9_less_51 rfl (by decide) rfl ?_
          refine v_aload_n dX9_less_52 rfl ?_
          refine v_get fX9_9 dX9_less_53 h_a (by decide) rfl ?_
          refine v_iload_n dX9_less_56 rfl ?_
          refine v_iload dX9_less_57 rfl ?_
          refine v_ldc (v := iI 1073741823) kX9_37 dX9_less_59 ?_
          refine w_iandm dX9_less_61 30 1073741824 rfl (by decide) rfl ?_
          refine w_nast dX9_less_62 h_b k (by omega) (by omega) (by decide) ((D % 1073741824).toNat) (by omega) (fun H1 eH1 => ?_)
          obtain ⟨F1, eF1⟩ : ∃ zz9, zz9 = zup f2 k ((D % 1073741824).toNat) := ⟨_, rfl⟩
          rw [← eF1] at eH1
          have h_b : H1 b = aN 420 F1 := zf_same eH1
          have h_a := (zf_ne eH1 ne_a_b).trans h_a
          have h_c := (zf_ne eH1 ne_c_b).trans h_c
          have h_e := (zf_ne eH1 ne_e_b).trans h_e
          have fr := fr.put eH1 (by simp)
          refine w_iinc (lv' := [(3, .int (iI (y + 1))), (2, .int (iI l2)), (0, .ref a), (1, .ref c), (4, .int (iI D))]) dX9_less_63 rfl (by decide) rfl ?_
          refine v_goto 4 dX9_less_66 (by decide) ?_
          refine w_sub (lv2 := [(0, .ref a), (1, .ref c), (2, .int (iI l2)), (3, .int (iI (y + 1)))]) [2, 3, 1, 0] rfl ?_
          refine ih (k + 1) (y + 1) l2 F1 _ (by omega) (by omega) (by omega) (by rw [eF1]; exact nw_up hf2 (by omega)) (fun i hi => by rw [eF1, zup_ne _ _ (by omega)]; exact hs i (by omega)) ?_ h_a h_b h_c h_e fr
          rw [eF1, nv_up1, nmod_next, p30, el2, ex3, Int.neg_neg]
          show _ = ((nv f k + f k * 2 ^ (30 * k) : Nat) : Int) - _
          rw [Int.natCast_add, Int.natCast_add, Int.natCast_add, Int.natCast_mul, Int.natCast_mul, Int.natCast_mul, Int.natCast_mul]
          exact nlow_step inv (by omega)
        refine v_istore (i := 4) (lv' := [(4, .int (iI D)), (0, .ref a), (1, .ref c), (2, .int (iI le)), (3, .int (iI y))]) dX9_less_39 (by decide) rfl ?_
        refine v_iload dX9_less_41 rfl ?_
        refine w_if_ge 50 dX9_less_43 (by decide) (by omega) (fun c1 => ?_) (fun c1 => ?_)
        · skip
          refine v_iconst (iI 0) dX9_less_50 rfl ?_
          refine w_sub (lv2 := [(0, .ref a), (1, .ref c), (3, .int (iI y)), (4, .int (iI D))]) [1, 2, 4, 0] rfl ?_
          exact j51 0 (by omega)
        · skip
          refine v_iconst (iI 1) dX9_less_46 rfl ?_
          refine v_goto 51 dX9_less_47 (by decide) ?_
          refine w_sub (lv2 := [(0, .ref a), (1, .ref c), (3, .int (iI y)), (4, .int (iI D))]) [1, 2, 4, 0] rfl ?_
          exact j51 1 (by omega)
      refine v_iload_n dX9_less_4 rfl ?_
      refine v_aload_n dX9_less_5 rfl ?_
      refine v_get fX9_15 dX9_less_6 h_a (by decide) rfl ?_
      refine w_icmp_ge 69 dX9_less_9 (by decide) (by omega) (by omega) (fun c1 => ?_) (fun c1 => ?_)
      · exact absurd c1 (by omega)
      · skip
        refine v_aload_n dX9_less_12 rfl ?_
        refine v_get fX9_9 dX9_less_13 h_a (by decide) rfl ?_
        refine v_iload_n dX9_less_16 rfl ?_
        refine w_nald dX9_less_17 h_b k (by omega) (by omega) (by decide) ?_
        refine v_iload_n dX9_less_18 rfl ?_
        refine w_isub dX9_less_19 ?_
        refine w_ei ((f k : Int) - le) (by rw [hsk]) ?_
        refine v_iload_n dX9_less_20 rfl ?_
        refine v_aload_n dX9_less_21 rfl ?_
        refine v_get fX9_15 dX9_less_22 h_c (by decide) rfl ?_
        refine w_icmp_ge 37 dX9_less_25 (by decide) (by omega) (by omega) (fun c2 => ?_) (fun c2 => ?_)
        · skip
          refine v_iconst (iI 0) dX9_less_37 rfl ?_
          refine w_ei (x2:Nat) (by rw [← ex2, if_neg (by omega)]; rfl) ?_
          exact j38
        · skip
          refine v_aload_n dX9_less_28 rfl ?_
          refine v_get fX9_9 dX9_less_29 h_c (by decide) rfl ?_
          refine v_iload_n dX9_less_32 rfl ?_
          refine w_nald dX9_less_33 h_e k (by omega) (by omega) (by decide) ?_
          refine v_goto 38 dX9_less_34 (by decide) ?_
          refine w_ei (x2:Nat) (by rw [← ex2, if_pos (by omega)]) ?_
          exact j38
  exact loop u 0 0 0 f _ (by omega) rfl (Or.inl rfl) hf (fun _ _ => rfl) (by rw [Nat.mul_zero, Nat.pow_zero, Nat.mod_one]; rfl) h_a h_b h_c h_e fr
