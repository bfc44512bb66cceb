/-! The reference's Nat: times, divide, shift, bit -/
theorem ngrow_step {G c P F x y fk q r : Nat} (h1 : G + c * P = F * x + y) (e : 1073741824 * q + r = fk * x + c) : G + r * P + q * (1073741824 * P) = (F + fk * P) * x + y := by
  have h2 := congrArg (· * P) e
  simp only [Nat.add_mul] at h2
  rw [Nat.add_mul]
  have e1 : q * (1073741824 * P) = 1073741824 * q * P := by rw [← Nat.mul_assoc, Nat.mul_comm q]
  have e2 : fk * P * x = fk * x * P := by rw [Nat.mul_assoc, Nat.mul_comm P, ← Nat.mul_assoc]
  omega
set_option maxHeartbeats 4000000 in
set_option maxRecDepth 100000 in
theorem p_ntimes {d n a b v x y : Nat} {h : zH} (hw : ND h a b v) (hx : x < 4294967296) (hy : y < 1073741824) (hv9 : v < 2 ^ 12000) :
    zM yX9_times cX9_times 7 none d 0 0 [.ref a, .long (jL (x:Nat)), .int (iI (y:Nat))] h n (fun r h' n' => r = none ∧ n' = n ∧ NS h' a b ∧ (x ≠ 0 → ND h' a b (v * x + y)) ∧ zFr [a, b] h h') := by
  obtain ⟨u, f, h_a, h_b, hf, hu, hv, ht⟩ := hw
  have hu9 : u ≤ 400 := ND.len ht (by rw [hv]; exact hv9)
  have htop := ND.top ht
  rw [hv] at htop
  have ne_b_a := wne h_a h_b
  have ne_a_b := ne_b_a.symm
  refine zM_of zyX9_times rfl (Nat.le_of_ble_eq_true rfl) (fun X hX => ?_)
  have fr : zFr [a, b] h h := zFr.rf
  have tail : ∀ (m k c : Nat) (g : Nat → Nat) (H : zH) (i : Int), k + m ≤ 402 → c < 2 ^ (30 * m) → c < 8589934592 → nw g → nv g k + c * 2 ^ (30 * k) = v * x + y → (x ≠ 0 → c ≠ 0 ∨ k = 0 ∨ g (k - 1) ≠ 0) → H a = oNat b k → H b = aN 420 g → zFr [a, b] h H → (zV X (fun r h' n' => r = none ∧ n' = n ∧ NS h' a b ∧ (x ≠ 0 → ND h' a b (v * x + y)) ∧ zFr [a, b] h h') cX9_times 7 RX9 none d 0 0 58 [(0, .ref a), (1, .long (jL (x:Nat))), (4, .long (jL (c:Nat))), (6, .int (iI i))] [] H n 0 0) := by
    intro m
    induction m with
    | zero =>
      intro k c g H i hk hc1 hc2 hg inv htp h_a h_b fr
      have hc0 : c = 0 := by have : (2 : Nat) ^ (30 * 0) = 1 := rfl; omega
      rw [hc0, Nat.zero_mul, Nat.add_zero] at inv
      refine v_lload dX9_times_58 rfl ?_
      refine v_lconst (jL 0) dX9_times_60 rfl ?_
      refine w_lcmp_eq 101 dX9_times_61 dX9_times_62 (by decide) (by omega) (by decide) (fun c1 => ?_) (fun c1 => ?_)
      · skip
        exact v_vret dX9_times_101 trivial (Nat.le_of_ble_eq_true rfl) (Nat.le_of_ble_eq_true rfl) ⟨rfl, rfl, ⟨k, g, h_a, h_b, hg, by omega⟩, fun z => ⟨k, g, h_a, h_b, hg, by omega, inv, (htp z).resolve_left (by omega)⟩, fr⟩
      · exact absurd c1 (by omega)
    | succ m ih =>
      intro k c g H i hk hc1 hc2 hg inv htp h_a h_b fr
      refine v_lload dX9_times_58 rfl ?_
      refine v_lconst (jL 0) dX9_times_60 rfl ?_
      refine w_lcmp_eq 101 dX9_times_61 dX9_times_62 (by decide) (by omega) (by decide) (fun c1 => ?_) (fun c1 => ?_)
      · have hc0 : c = 0 := by omega
        rw [hc0, Nat.zero_mul, Nat.add_zero] at inv
        exact v_vret dX9_times_101 trivial (Nat.le_of_ble_eq_true rfl) (Nat.le_of_ble_eq_true rfl) ⟨rfl, rfl, ⟨k, g, h_a, h_b, hg, by omega⟩, fun z => ⟨k, g, h_a, h_b, hg, by omega, inv, (htp z).resolve_left (by omega)⟩, fr⟩
      · skip
        refine v_aload_n dX9_times_65 rfl ?_
        refine v_get fX9_9 dX9_times_66 h_a (by decide) rfl ?_
        refine v_aload_n dX9_times_69 rfl ?_
        refine v_get fX9_15 dX9_times_70 h_a (by decide) rfl ?_
        refine v_lload dX9_times_73 rfl ?_
        refine v_ldc2_w (v := jL 1073741823) kX9_19 dX9_times_75 ?_
        refine w_landm dX9_times_78 30 1073741824 rfl (by decide) rfl ?_
        refine w_l2i dX9_times_79 ?_
        refine w_nast dX9_times_80 h_b k (by omega) (by omega) (by decide) (c % 1073741824) (by omega) (fun H1 eH1 => ?_)
        obtain ⟨F1, eF1⟩ : ∃ zz9, zz9 = zup g k (c % 1073741824) := ⟨_, rfl⟩
        rw [← eF1] at eH1
        have h_b : H1 b = aN 420 F1 := zf_same eH1
        have h_a := (zf_ne eH1 ne_a_b).trans h_a
        have fr := fr.put eH1 (by simp)
        refine v_aload_n dX9_times_81 rfl ?_
        refine v_dup dX9_times_82 rfl ?_
        refine v_get fX9_15 dX9_times_83 h_a (by decide) rfl ?_
        refine v_iconst (iI 1) dX9_times_86 rfl ?_
        refine w_iadd dX9_times_87 ?_
        refine w_ei (k + 1:Nat) (by omega) ?_
        refine v_put (fs' := [.ref b, .int (iI (k + 1:Nat))]) fX9_15 dX9_times_88 h_a (by decide) (Nat.le_of_ble_eq_true rfl) rfl rfl rfl (fun H2 eH2 => ?_)
        have h_a : H2 a = oNat b (k + 1:Nat) := zf_same eH2
        have h_b := (zf_ne eH2 ne_b_a).trans h_b
        have fr := fr.put eH2 (by simp)
        refine v_lload dX9_times_91 rfl ?_
        refine v_bipush (iI 30) dX9_times_93 rfl ?_
        refine w_lshr dX9_times_95 30 1073741824 rfl rfl (by decide) (by omega) ?_
        refine v_lstore (i := 4) (lv' := [(4, .long (jL ((c:Nat) / 1073741824))), (0, .ref a), (1, .long (jL (x:Nat))), (6, .int (iI i))]) dX9_times_96 (by decide) rfl ?_
        refine v_goto 58 dX9_times_98 (by decide) ?_
        refine w_sub (lv2 := [(0, .ref a), (1, .long (jL (x:Nat))), (4, .long (jL ((c:Nat) / 1073741824))), (6, .int (iI i))]) [1, 2, 0, 3] rfl ?_
        refine ih (k + 1) (c / 1073741824) F1 _ i (by omega) ?_ (by omega) (by rw [eF1]; exact nw_up hg (by omega)) ?_ ?_ h_a h_b fr
        · rw [p30] at hc1
          exact Nat.div_lt_of_lt_mul hc1
        · rw [eF1, nv_up1, p30, ← inv, ← Nat.mul_assoc]
          have := congrArg (· * 2 ^ (30 * k)) (Nat.div_add_mod c 1073741824)
          simp only [Nat.add_mul] at this
          rw [Nat.mul_comm (c / 1073741824) 1073741824]
          omega
        · intro z
          rw [Nat.add_sub_cancel, eF1, zup_same]
          omega
  have loop : ∀ (m k c : Nat) (i : Int) (g : Nat → Nat) (H : zH), k + m = u → i = k → c < 8589934592 → nw g → (∀ j, k ≤ j → g j = f j) → nv g k + c * 2 ^ (30 * k) = nv f k * x + y → H a = oNat b u → H b = aN 420 g → zFr [a, b] h H → (zV X (fun r h' n' => r = none ∧ n' = n ∧ NS h' a b ∧ (x ≠ 0 → ND h' a b (v * x + y)) ∧ zFr [a, b] h h') cX9_times 7 RX9 none d 0 0 7 [(0, .ref a), (1, .long (jL (x:Nat))), (4, .long (jL (c:Nat))), (6, .int (iI i))] [] H n 0 0) := by
    intro m
    induction m with
    | zero =>
      intro k c i g H hk ei hc hg hgf inv h_a h_b fr
      have ek : k = u := by omega
      subst ek
      rw [hv] at inv
      refine v_iload dX9_times_7 rfl ?_
      refine v_aload_n dX9_times_9 rfl ?_
      refine v_get fX9_15 dX9_times_10 h_a (by decide) rfl ?_
      refine w_icmp_ge 58 dX9_times_13 (by decide) (by omega) (by omega) (fun c1 => ?_) (fun c1 => ?_)
      · refine tail 2 k c g H i (by omega) (by rw [show (2 : Nat) ^ (30 * 2) = 1152921504606846976 from rfl]; omega) hc hg inv (fun z => ?_) h_a h_b fr
        rcases htop with q | q
        · exact Or.inr (Or.inl q)
        · rcases Nat.eq_zero_or_pos k with q0 | q0
          · exact Or.inr (Or.inl q0)
          · by_cases z2 : c = 0
            · right; right
              intro z3
              rw [z2, Nat.zero_mul, Nat.add_zero] at inv
              obtain ⟨m2, rfl⟩ : ∃ m2, k = m2 + 1 := ⟨k - 1, by omega⟩
              rw [Nat.add_sub_cancel] at z3 q
              have h8 : nv g (m2 + 1) = nv g m2 := by show nv g m2 + g m2 * 2 ^ (30 * m2) = _; rw [z3, Nat.zero_mul, Nat.add_zero]
              have h9 := nv_lt hg m2
              have h10 := Nat.le_mul_of_pos_right v (show 0 < x by omega)
              omega
            · exact Or.inl z2
      · exact absurd c1 (by omega)
    | succ m ih =>
      intro k c i g H hk ei hc hg hgf inv h_a h_b fr
      have hfk := hf k
      have hgk := hgf k (Nat.le_refl k)
      have hp1 : f k * x ≤ 1073741823 * 4294967295 := Nat.mul_le_mul (by omega) (by omega)
      refine v_iload dX9_times_7 rfl ?_
      refine v_aload_n dX9_times_9 rfl ?_
      refine v_get fX9_15 dX9_times_10 h_a (by decide) rfl ?_
      refine w_icmp_ge 58 dX9_times_13 (by decide) (by omega) (by omega) (fun c1 => ?_) (fun c1 => ?_)
      · exact absurd c1 (by omega)
      · have hgk2 : g k < 1073741824 := by omega
        refine v_lload dX9_times_16 rfl ?_
        refine v_aload_n dX9_times_18 rfl ?_
        refine v_get fX9_9 dX9_times_19 h_a (by decide) rfl ?_
        refine v_iload dX9_times_22 rfl ?_
        refine w_nald dX9_times_24 h_b k (by omega) (by omega) (by decide) ?_
        refine w_i2l dX9_times_25 (by omega) ?_
        refine v_lload_n dX9_times_26 rfl ?_
        refine w_lmul dX9_times_27 ?_
        refine w_ladd dX9_times_28 ?_
        obtain ⟨p, ep⟩ : ∃ p, f k * x + c = p := ⟨_, rfl⟩
        refine w_el (p:Nat) (by rw [hgk, ← ep, Int.natCast_add, Int.natCast_mul, Int.add_comm]) ?_
        refine v_lstore (i := 4) (lv' := [(4, .long (jL (p:Nat))), (0, .ref a), (1, .long (jL (x:Nat))), (6, .int (iI i))]) dX9_times_29 (by decide) rfl ?_
        refine v_aload_n dX9_times_31 rfl ?_
        refine v_get fX9_9 dX9_times_32 h_a (by decide) rfl ?_
        refine v_iload dX9_times_35 rfl ?_
        refine v_lload dX9_times_37 rfl ?_
        refine v_ldc2_w (v := jL 1073741823) kX9_19 dX9_times_39 ?_
        refine w_landm dX9_times_42 30 1073741824 rfl (by decide) rfl ?_
        refine w_l2i dX9_times_43 ?_
        refine w_nast dX9_times_44 h_b k (by omega) (by omega) (by decide) (p % 1073741824) (by omega) (fun H1 eH1 => ?_)
        obtain ⟨F1, eF1⟩ : ∃ zz9, zz9 = zup g k (p % 1073741824) := ⟨_, rfl⟩
        rw [← eF1] at eH1
        have h_b : H1 b = aN 420 F1 := zf_same eH1
        have h_a := (zf_ne eH1 ne_a_b).trans h_a
        have fr := fr.put eH1 (by simp)
        refine v_lload dX9_times_45 rfl ?_
        refine v_bipush (iI 30) dX9_times_47 rfl ?_
        refine w_lshr dX9_times_49 30 1073741824 rfl rfl (by decide) (by omega) ?_
        refine v_lstore (i := 4) (lv' := [(4, .long (jL ((p:Nat) / 1073741824))), (0, .ref a), (1, .long (jL (x:Nat))), (6, .int (iI i))]) dX9_times_50 (by decide) rfl ?_
        refine w_iinc (lv' := [(6, .int (iI (i + 1))), (4, .long (jL ((p:Nat) / 1073741824))), (0, .ref a), (1, .long (jL (x:Nat)))]) dX9_times_52 rfl (by decide) rfl ?_
        refine v_goto 7 dX9_times_55 (by decide) ?_
        refine w_sub (lv2 := [(0, .ref a), (1, .long (jL (x:Nat))), (4, .long (jL ((p:Nat) / 1073741824))), (6, .int (iI (i + 1)))]) [2, 3, 1, 0] rfl ?_
        refine ih (k + 1) (p / 1073741824) (i + 1) F1 _ (by omega) (by omega) (by omega) (by rw [eF1]; exact nw_up hg (by omega)) (fun j hj => by rw [eF1, zup_ne _ _ (by omega)]; exact hgf j (by omega)) ?_ h_a h_b fr
        rw [eF1, nv_up1, p30]
        show _ = (nv f k + f k * 2 ^ (30 * k)) * x + y
        exact ngrow_step inv (by rw [ep]; exact Nat.div_add_mod p 1073741824)
  refine v_iload_n dX9_times_0 rfl ?_
  refine w_i2l dX9_times_1 (by omega) ?_
  refine v_lstore (i := 4) (lv' := [(4, .long (jL (y:Nat))), (0, .ref a), (1, .long (jL (x:Nat))), (3, .int (iI (y:Nat)))]) dX9_times_2 (by decide) rfl ?_
  refine v_iconst (iI 0) dX9_times_4 rfl ?_
  refine v_istore (i := 6) (lv' := [(6, .int (iI 0)), (4, .long (jL (y:Nat))), (0, .ref a), (1, .long (jL (x:Nat))), (3, .int (iI (y:Nat)))]) dX9_times_5 (by decide) rfl ?_
  refine w_sub (lv2 := [(0, .ref a), (1, .long (jL (x:Nat))), (4, .long (jL (y:Nat))), (6, .int (iI 0))]) [2, 3, 1, 0] rfl ?_
  exact loop u 0 y 0 f h (by omega) rfl (by omega) hf (fun _ _ => rfl) (by simp [nv]) h_a h_b fr
theorem nv_cons (F : Nat → Nat) (m : Nat) : nv F (m + 1) = F 0 + 1073741824 * nv (fun i => F (i + 1)) m := by
  rw [Nat.add_comm m 1, nv_split F 1 m]
  have e1 : nv F 1 = F 0 := by show 0 + F 0 * 1 = F 0; omega
  rw [e1, nv_congr m (g := fun i => F (i + 1)) (fun i _ => by rw [Nat.add_comm])]
set_option maxHeartbeats 4000000 in
set_option maxRecDepth 100000 in
theorem p_ndivide {d n a b v : Nat} {h : zH} (hw : ND h a b v) (hd : 1 ≤ d) :
    zM yX9_divide cX9_divide 5 (some .int) d 0 0 [.ref a, .int (iI 10)] h n (fun r h' n' => r = some (.int (iI (v % 10 : Nat))) ∧ n' = n ∧ ND h' a b (v / 10) ∧ zFr [a, b] h h') := by
  obtain ⟨u, f, h_a, h_b, hf, hu, hv, ht⟩ := hw
  have ne_b_a := wne h_a h_b
  have ne_a_b := ne_b_a.symm
  refine zM_of zyX9_divide rfl (Nat.le_of_ble_eq_true rfl) (fun X hX => ?_)
  have fr : zFr [a, b] h h := zFr.rf
  refine v_lconst (jL 0) dX9_divide_0 rfl ?_
  refine v_lstore_n (i := 2) (lv' := [(2, .long (jL 0)), (0, .ref a), (1, .int (iI 10))]) dX9_divide_1 rfl (by decide) rfl ?_
  refine v_aload_n dX9_divide_2 rfl ?_
  refine v_get fX9_15 dX9_divide_3 h_a (by decide) rfl ?_
  refine v_iconst (iI 1) dX9_divide_6 rfl ?_
  refine w_isub dX9_divide_7 ?_
  refine v_istore (i := 4) (lv' := [(4, .int (iI ((u:Nat) - 1))), (2, .long (jL 0)), (0, .ref a), (1, .int (iI 10))]) dX9_divide_8 (by decide) rfl ?_
  refine w_sub (lv2 := [(0, .ref a), (1, .int (iI 10)), (2, .long (jL 0)), (4, .int (iI ((u:Nat) - 1)))]) [2, 3, 1, 0] rfl ?_
  have loop : ∀ (k m r : Nat) (i : Int) (g : Nat → Nat) (H : zH), k + m = u → i = (k : Int) - 1 → r < 10 → nw g → (∀ j, j < k → g j = f j) → nv (fun j => f (j + k)) m = 10 * nv (fun j => g (j + k)) m + r → H a = oNat b u → H b = aN 420 g → zFr [a, b] h H → (zV X (fun r h' n' => r = some (.int (iI (v % 10 : Nat))) ∧ n' = n ∧ ND h' a b (v / 10) ∧ zFr [a, b] h h') cX9_divide 5 RX9 (some .int) d 0 0 10 [(0, .ref a), (1, .int (iI 10)), (2, .long (jL (r:Nat))), (4, .int (iI i))] [] H n 0 0) := by
    intro k
    induction k with
    | zero =>
      intro m r i g H hk ei hr hg hgf inv h_a h_b fr
      have hku : m = u := by omega
      subst hku
      refine v_iload dX9_divide_10 rfl ?_
      refine w_if_lt 52 dX9_divide_12 (by decide) (by omega) (fun c1 => ?_) (fun c1 => ?_)
      · skip
        refine v_aload_n dX9_divide_52 rfl ?_
        refine v_aload_n dX9_divide_53 rfl ?_
        refine v_get fX9_15 dX9_divide_54 h_a (by decide) rfl ?_
        refine v_cV (av := [.int (iI (m:Nat))]) (st := []) zyX9_trim lX9_33 h_a rfl (p_ntrim (d := 0) h_a h_b hg hu) dX9_divide_57 rfl rfl (Nat.le_of_ble_eq_true rfl) (by omega) (Nat.le_of_ble_eq_true rfl) (Nat.le_of_ble_eq_true rfl) (Or.inl (fun _ _ _ q => ZN q)) (fun r9 H9 n9 q9 => ?_)
        obtain ⟨rfl, q9n, hw9, fr9⟩ := q9
        have q9n := q9n.symm
        subst q9n
        have e1 : v = 10 * nv g m + r := by rw [← hv]; exact inv
        have e : nv g m = v / 10 := by omega
        rw [e] at hw9
        refine v_lload_n dX9_divide_60 rfl ?_
        refine w_l2i dX9_divide_61 ?_
        exact v_iret dX9_divide_62 trivial (Nat.le_of_ble_eq_true rfl) (Nat.le_of_ble_eq_true rfl) ⟨by rw [show v % 10 = r from by omega], rfl, hw9, fr.tr fr9 (by simp)⟩
      · exact absurd c1 (by omega)
    | succ k ih =>
      intro m r i g H hk ei hr hg hgf inv h_a h_b fr
      have hgk := hgf k (by omega)
      have hfk := hf k
      refine v_iload dX9_divide_10 rfl ?_
      refine w_if_lt 52 dX9_divide_12 (by decide) (by omega) (fun c1 => ?_) (fun c1 => ?_)
      · exact absurd c1 (by omega)
      · have hgk2 : g k < 1073741824 := by omega
        refine v_lload_n dX9_divide_15 rfl ?_
        refine v_bipush (iI 30) dX9_divide_16 rfl ?_
        refine w_lshl dX9_divide_18 30 1073741824 rfl rfl (by decide) ?_
        refine v_aload_n dX9_divide_19 rfl ?_
        refine v_get fX9_9 dX9_divide_20 h_a (by decide) rfl ?_
        refine v_iload dX9_divide_23 rfl ?_
        refine w_nald dX9_divide_25 h_b k (by omega) (by omega) (by decide) ?_
        refine w_i2l dX9_divide_26 (by omega) ?_
        refine w_lor dX9_divide_27 30 1073741824 rfl (by decide) (by omega) (by omega) ?_
        obtain ⟨y, ey⟩ : ∃ y, r * 1073741824 + f k = y := ⟨_, rfl⟩
        refine w_el (y:Nat) (by rw [hgk, ← ey]; omega) ?_
        have hy : y < 10737418240 := by omega
        refine v_lstore_n (i := 2) (lv' := [(2, .long (jL (y:Nat))), (0, .ref a), (1, .int (iI 10)), (4, .int (iI i))]) dX9_divide_28 rfl (by decide) rfl ?_
        refine v_aload_n dX9_divide_29 rfl ?_
        refine v_get fX9_9 dX9_divide_30 h_a (by decide) rfl ?_
        refine v_iload dX9_divide_33 rfl ?_
        refine v_lload_n dX9_divide_35 rfl ?_
        refine v_iload_n dX9_divide_36 rfl ?_
        refine w_i2l dX9_divide_37 (by decide) ?_
        refine w_ldivn dX9_divide_38 (by omega) (by decide) ?_
        refine w_l2i dX9_divide_39 ?_
        refine w_nast dX9_divide_40 h_b k (by omega) (by omega) (by decide) (y / 10) (by omega) (fun H1 eH1 => ?_)
        obtain ⟨F1, eF1⟩ : ∃ zz9, zz9 = zup g k (y / 10) := ⟨_, rfl⟩
        rw [← eF1] at eH1
        have h_b : H1 b = aN 420 F1 := zf_same eH1
        have h_a := (zf_ne eH1 ne_a_b).trans h_a
        have fr := fr.put eH1 (by simp)
        refine v_lload_n dX9_divide_41 rfl ?_
        refine v_iload_n dX9_divide_42 rfl ?_
        refine w_i2l dX9_divide_43 (by decide) ?_
        refine w_lremn dX9_divide_44 (by omega) (by decide) ?_
        refine v_lstore_n (i := 2) (lv' := [(2, .long (jL ((y:Nat) % 10))), (0, .ref a), (1, .int (iI 10)), (4, .int (iI i))]) dX9_divide_45 rfl (by decide) rfl ?_
        refine w_iinc (lv' := [(4, .int (iI (i + (-1)))), (2, .long (jL ((y:Nat) % 10))), (0, .ref a), (1, .int (iI 10))]) dX9_divide_46 rfl (by decide) rfl ?_
        refine v_goto 10 dX9_divide_49 (by decide) ?_
        refine w_sub (lv2 := [(0, .ref a), (1, .int (iI 10)), (2, .long (jL ((y:Nat) % 10))), (4, .int (iI (i + (-1))))]) [2, 3, 1, 0] rfl ?_
        refine ih (m + 1) (y % 10) (i + -1) F1 _ (by omega) (by omega) (by omega) (by rw [eF1]; exact nw_up hg (by omega)) (fun j hj => by rw [eF1, zup_ne _ _ (by omega)]; exact hgf j (by omega)) ?_ h_a h_b fr
        rw [nv_cons, nv_cons]
        have e1 : nv (fun j => f (j + 1 + k)) m = nv (fun j => f (j + (k + 1))) m := nv_congr m (fun j _ => by rw [Nat.add_right_comm, Nat.add_assoc])
        have e2 : nv (fun j => F1 (j + 1 + k)) m = nv (fun j => g (j + (k + 1))) m := nv_congr m (fun j _ => by rw [eF1, zup_ne _ _ (by omega), Nat.add_right_comm, Nat.add_assoc])
        have e3 : F1 (0 + k) = y / 10 := by rw [eF1, Nat.zero_add]; exact zup_same _ _ _
        show f (0 + k) + 1073741824 * nv (fun j => f (j + 1 + k)) m = 10 * (F1 (0 + k) + 1073741824 * nv (fun j => F1 (j + 1 + k)) m) + y % 10
        rw [e1, e2, e3, inv, Nat.zero_add]
        omega
  exact loop u 0 0 _ f h (by omega) rfl (by decide) hf (fun _ _ => rfl) rfl h_a h_b fr
theorem nat_sh0 {v w p : Nat} : nat (v * 2 ^ (30 * w + p)) w = nat v 0 * 2 ^ p % 1073741824 := by
  unfold nat
  rw [Nat.pow_add, ← Nat.mul_assoc, Nat.mul_right_comm, Nat.mul_div_cancel _ (p_pos _), Nat.mul_zero, Nat.pow_zero, Nat.div_one, Nat.mod_mul_mod]
theorem nat_shz {v w p j : Nat} (hj : j < w) : nat (v * 2 ^ (30 * w + p)) j = 0 := by
  unfold nat
  obtain ⟨m, rfl⟩ : ∃ m, w = j + 1 + m := ⟨w - j - 1, by omega⟩
  rw [show 30 * (j + 1 + m) + p = 30 * j + (30 + (30 * m + p)) from by omega, Nat.pow_add, Nat.pow_add, ← Nat.mul_assoc, Nat.mul_comm v, Nat.mul_assoc, Nat.mul_div_cancel_left _ (p_pos _), Nat.mul_comm v]
  show 1073741824 * _ * v % 1073741824 = 0
  rw [Nat.mul_assoc, Nat.mul_mod_right]
theorem nat_sh1 {v w p q : Nat} (hp : p < 30) : nat (v * 2 ^ (30 * w + p)) (w + (q + 1)) = (nat v (q + 1) * 2 ^ p + nat v q * 2 ^ p / 1073741824) % 1073741824 := by
  have e : 2 ^ (30 * (w + (q + 1))) = (2 ^ (30 * q) * 2 ^ 30) * 2 ^ (30 * w) := by
    rw [← Nat.pow_add, ← Nat.pow_add]; congr 1; omega
  have e2 : nat (v * 2 ^ (30 * w + p)) (w + (q + 1)) = v / 2 ^ (30 * q) * 2 ^ p / 1073741824 % 1073741824 := by
    unfold nat
    rw [e, Nat.add_comm (30 * w) p, Nat.pow_add, ← Nat.mul_assoc v, Nat.mul_div_mul_right _ _ (p_pos _), ← Nat.div_div_eq_div_mul]
    have d1 : v * 2 ^ p / 2 ^ (30 * q) / 2 ^ 30 = v / 2 ^ (30 * q) * 2 ^ p / 2 ^ 30 := by
      rw [Nat.div_div_eq_div_mul]
      have h1 := Nat.div_add_mod v (2 ^ (30 * q))
      have h2 := Nat.mod_lt v (p_pos (30 * q))
      obtain ⟨Q, eQ⟩ : ∃ Q, v / 2 ^ (30 * q) = Q := ⟨_, rfl⟩
      obtain ⟨S, eS⟩ : ∃ S, v % 2 ^ (30 * q) = S := ⟨_, rfl⟩
      rw [eQ, eS] at h1
      rw [eS] at h2
      rw [eQ]
      have e3 : v * 2 ^ p = S * 2 ^ p + 2 ^ (30 * q) * (Q * 2 ^ p) := by rw [← h1, Nat.add_mul, Nat.mul_assoc, Nat.add_comm]
      have e4 : (2 : Nat) ^ 30 = 2 ^ p * 2 ^ (30 - p) := by rw [← Nat.pow_add, show p + (30 - p) = 30 from by omega]
      have e5 : v * 2 ^ p / 2 ^ (30 * q) = S * 2 ^ p / 2 ^ (30 * q) + Q * 2 ^ p := by rw [e3, Nat.add_mul_div_left _ _ (p_pos _)]
      rw [← Nat.div_div_eq_div_mul, e5]
      have h3 : S * 2 ^ p / 2 ^ (30 * q) < 2 ^ p := Nat.div_lt_of_lt_mul (Nat.mul_lt_mul_of_pos_right h2 (p_pos p))
      rw [e4, ← Nat.div_div_eq_div_mul, ← Nat.div_div_eq_div_mul, Nat.add_mul_div_right _ _ (p_pos p), Nat.mul_div_cancel _ (p_pos p), Nat.div_eq_of_lt h3, Nat.zero_add]
    exact congrArg (· % 1073741824) d1
  rw [e2]
  have h1 : nat v (q + 1) = v / 2 ^ (30 * q) / 1073741824 % 1073741824 := by
    unfold nat
    rw [p30, Nat.mul_comm 1073741824, ← Nat.div_div_eq_div_mul]
  have h2 : nat v q = v / 2 ^ (30 * q) % 1073741824 := rfl
  rw [h1, h2]
  obtain ⟨X, eX⟩ : ∃ X, v / 2 ^ (30 * q) = X := ⟨_, rfl⟩
  rw [eX]
  have h3 := Nat.div_add_mod X 1073741824
  obtain ⟨Y, eY⟩ : ∃ Y, X / 1073741824 = Y := ⟨_, rfl⟩
  obtain ⟨Z, eZ⟩ : ∃ Z, X % 1073741824 = Z := ⟨_, rfl⟩
  rw [eY, eZ] at h3
  rw [eY, eZ, ← h3, Nat.add_mul, Nat.mul_assoc, Nat.mul_add_div (by decide), Nat.add_mod, Nat.add_mod (Y % 1073741824 * 2 ^ p), Nat.mod_mul_mod]
set_option maxHeartbeats 4000000 in
set_option maxRecDepth 100000 in
theorem p_nshift {d n a b v t : Nat} {h : zH} (hw : ND h a b v) (hd : 1 ≤ d) (ht9 : t < 100000) (hv9 : v * 2 ^ t < 2 ^ 12000) :
    zM yX9_shift cX9_shift 9 none d 0 0 [.ref a, .int (iI (t:Nat))] h n (fun r h' n' => r = none ∧ n' = n ∧ ND h' a b (v * 2 ^ t) ∧ zFr [a, b] h h') := by
  obtain ⟨u, f, h_a, h_b, hf, hu, hv, ht⟩ := id hw
  have htop := ND.top ht
  rw [hv] at htop
  have ne_b_a := wne h_a h_b
  have ne_a_b := ne_b_a.symm
  refine zM_of zyX9_shift rfl (Nat.le_of_ble_eq_true rfl) (fun X hX => ?_)
  have fr : zFr [a, b] h h := zFr.rf
  refine v_aload_n dX9_shift_0 rfl ?_
  refine v_get fX9_15 dX9_shift_1 h_a (by decide) rfl ?_
  refine w_if_ne 8 dX9_shift_4 (by decide) (by omega) (fun c0 => ?_) (fun c0 => ?_)
  · obtain ⟨w, p, ew, ep, et⟩ : ∃ w p : Nat, t / 30 = w ∧ t % 30 = p ∧ t = 30 * w + p := ⟨_, _, rfl, rfl, by omega⟩
    have hub : 30 * (u - 1) + t < 12000 := by
      have h1 := Nat.mul_le_mul_right (2 ^ t) (htop.resolve_left (by omega))
      rw [← Nat.pow_add] at h1
      exact (Nat.pow_lt_pow_iff_right (show 1 < 2 by decide)).mp (Nat.lt_of_le_of_lt h1 hv9)
    have hVu : v * 2 ^ t < 2 ^ (30 * (u + w + 1)) := by
      have h1 := Nat.mul_lt_mul_of_pos_right (show v < 2 ^ (30 * u) by rw [← hv]; exact nv_lt hf u) (p_pos t)
      rw [← Nat.pow_add] at h1
      exact Nat.lt_of_lt_of_le h1 (Nat.pow_le_pow_right (by decide) (by omega))
    refine v_iload_n dX9_shift_8 rfl ?_
    refine v_bipush (iI 30) dX9_shift_9 rfl ?_
    refine w_idivn dX9_shift_11 (by omega) (by decide) ?_
    refine w_ei (w:Nat) (by omega) ?_
    refine v_istore_n (i := 2) (lv' := [(2, .int (iI (w:Nat))), (0, .ref a), (1, .int (iI (t:Nat)))]) dX9_shift_12 rfl (by decide) rfl ?_
    refine v_iload_n dX9_shift_13 rfl ?_
    refine v_bipush (iI 30) dX9_shift_14 rfl ?_
    refine w_iremn dX9_shift_16 (by omega) (by decide) ?_
    refine w_ei (p:Nat) (by omega) ?_
    refine v_istore_n (i := 3) (lv' := [(3, .int (iI (p:Nat))), (2, .int (iI (w:Nat))), (0, .ref a), (1, .int (iI (t:Nat)))]) dX9_shift_17 rfl (by decide) rfl ?_
    refine v_aload_n dX9_shift_18 rfl ?_
    refine v_get fX9_9 dX9_shift_19 h_a (by decide) rfl ?_
    refine v_aload_n dX9_shift_22 rfl ?_
    refine v_get fX9_15 dX9_shift_23 h_a (by decide) rfl ?_
    refine v_iconst (iI 0) dX9_shift_26 rfl ?_
    refine w_nast dX9_shift_27 h_b u (by omega) (by omega) (by decide) 0 rfl (fun H1 eH1 => ?_)
    obtain ⟨F1, eF1⟩ : ∃ zz9, zz9 = zup f u 0 := ⟨_, rfl⟩
    rw [← eF1] at eH1
    have h_b : H1 b = aN 420 F1 := zf_same eH1
    have h_a := (zf_ne eH1 ne_a_b).trans h_a
    have fr := fr.put eH1 (by simp)
    refine v_aload_n dX9_shift_28 rfl ?_
    refine v_get fX9_15 dX9_shift_29 h_a (by decide) rfl ?_
    refine v_istore (i := 4) (lv' := [(4, .int (iI (u:Nat))), (3, .int (iI (p:Nat))), (2, .int (iI (w:Nat))), (0, .ref a), (1, .int (iI (t:Nat)))]) dX9_shift_32 (by decide) rfl ?_
    refine w_sub (lv2 := [(0, .ref a), (2, .int (iI (w:Nat))), (3, .int (iI (p:Nat))), (4, .int (iI (u:Nat)))]) [3, 2, 1, 0] rfl ?_
    have hF1 : ∀ j, j ≤ u → F1 j = nat v j := fun j hj => by
      rw [eF1]
      by_cases z : j = u
      · rw [z, zup_same, ← hv, nv_top hf (Nat.le_refl u)]
      · rw [zup_ne _ _ z, ← hv, nv_digit hf (by omega)]
    have hF1b : nw F1 := by rw [eF1]; exact nw_up hf (by decide)
    have low : ∀ (m k : Nat) (i : Int) (g : Nat → Nat) (H : zH), k + m = w → i = k → nw g → (∀ j, j < k → g j = 0) → (∀ j, j ≤ u → g (j + w) = nat (v * 2 ^ t) (j + w)) → H a = oNat b u → H b = aN 420 g → zFr [a, b] h H → (zV X (fun r h' n' => r = none ∧ n' = n ∧ ND h' a b (v * 2 ^ t) ∧ zFr [a, b] h h') cX9_shift 9 RX9 none d 0 0 105 [(0, .ref a), (2, .int (iI (w:Nat))), (3, .int (iI (p:Nat))), (4, .int (iI i))] [] H n 0 0) := by
      intro m
      induction m with
      | zero =>
        intro k i g H hk ei hg h0 hgw h_a h_b fr
        refine v_iload dX9_shift_105 rfl ?_
        refine v_iload_n dX9_shift_107 rfl ?_
        refine w_icmp_ge 125 dX9_shift_108 (by decide) (by omega) (by omega) (fun c1 => ?_) (fun c1 => ?_)
        · skip
          refine v_aload_n dX9_shift_125 rfl ?_
          refine v_aload_n dX9_shift_126 rfl ?_
          refine v_get fX9_15 dX9_shift_127 h_a (by decide) rfl ?_
          refine v_iload_n dX9_shift_130 rfl ?_
          refine w_iadd dX9_shift_131 ?_
          refine v_iconst (iI 1) dX9_shift_132 rfl ?_
          refine w_iadd dX9_shift_133 ?_
          refine w_ei (u + w + 1:Nat) (by omega) ?_
          refine v_cV (av := [.int (iI (u + w + 1:Nat))]) (st := []) zyX9_trim lX9_33 h_a rfl (p_ntrim (d := 0) h_a h_b hg (by omega)) dX9_shift_134 rfl rfl (Nat.le_of_ble_eq_true rfl) (by omega) (Nat.le_of_ble_eq_true rfl) (Nat.le_of_ble_eq_true rfl) (Or.inl (fun _ _ _ q => ZN q)) (fun r9 G1 n9 q9 => ?_)
          obtain ⟨rfl, q9n, hq, fr9⟩ := q9
          have q9n := q9n.symm
          subst q9n
          have e9 : nv g (u + w + 1) = v * 2 ^ t := by
            rw [nv_congr (g := nat (v * 2 ^ t)) (u + w + 1) (fun j hj => ?_), nat_all, Nat.mod_eq_of_lt hVu]
            rcases Nat.lt_or_ge j w with z | z
            · rw [h0 j (by omega), et, nat_shz z]
            · have := hgw (j - w) (by omega)
              rw [Nat.sub_add_cancel z] at this
              exact this
          rw [e9] at hq
          exact v_vret dX9_shift_137 trivial (Nat.le_of_ble_eq_true rfl) (Nat.le_of_ble_eq_true rfl) ⟨rfl, rfl, hq, fr.tr fr9 (by simp)⟩
        · exact absurd c1 (by omega)
      | succ m ih =>
        intro k i g H hk ei hg h0 hgw h_a h_b fr
        refine v_iload dX9_shift_105 rfl ?_
        refine v_iload_n dX9_shift_107 rfl ?_
        refine w_icmp_ge 125 dX9_shift_108 (by decide) (by omega) (by omega) (fun c1 => ?_) (fun c1 => ?_)
        · exact absurd c1 (by omega)
        · skip
          refine v_aload_n dX9_shift_111 rfl ?_
          refine v_get fX9_9 dX9_shift_112 h_a (by decide) rfl ?_
          refine v_iload dX9_shift_115 rfl ?_
          refine v_iconst (iI 0) dX9_shift_117 rfl ?_
          refine w_nast dX9_shift_118 h_b k (by omega) (by omega) (by decide) 0 rfl (fun H1 eH1 => ?_)
          obtain ⟨F1, eF1⟩ : ∃ zz9, zz9 = zup g k 0 := ⟨_, rfl⟩
          rw [← eF1] at eH1
          have h_b : H1 b = aN 420 F1 := zf_same eH1
          have h_a := (zf_ne eH1 ne_a_b).trans h_a
          have fr := fr.put eH1 (by simp)
          refine w_iinc (lv' := [(4, .int (iI (i + 1))), (0, .ref a), (2, .int (iI (w:Nat))), (3, .int (iI (p:Nat)))]) dX9_shift_119 rfl (by decide) rfl ?_
          refine v_goto 105 dX9_shift_122 (by decide) ?_
          refine w_sub (lv2 := [(0, .ref a), (2, .int (iI (w:Nat))), (3, .int (iI (p:Nat))), (4, .int (iI (i + 1)))]) [1, 2, 3, 0] rfl ?_
          exact ih (k + 1) (i + 1) F1 _ (by omega) (by omega) (by rw [eF1]; exact nw_up hg (by decide)) (fun j hj => by
            rw [eF1]
            by_cases z : j = k
            · rw [z, zup_same]
            · rw [zup_ne _ _ z]; exact h0 j (by omega)) (fun j hj => by rw [eF1, zup_ne _ _ (by omega)]; exact hgw j hj) h_a h_b fr
    have loop : ∀ (k : Nat) (i : Int) (g : Nat → Nat) (H : zH), k ≤ u + 1 → i = (k : Int) - 1 → nw g → (∀ j, j < k → g j = nat v j) → (∀ j, k ≤ j → j ≤ u → g (j + w) = nat (v * 2 ^ t) (j + w)) → H a = oNat b u → H b = aN 420 g → zFr [a, b] h H → (zV X (fun r h' n' => r = none ∧ n' = n ∧ ND h' a b (v * 2 ^ t) ∧ zFr [a, b] h h') cX9_shift 9 RX9 none d 0 0 34 [(0, .ref a), (2, .int (iI (w:Nat))), (3, .int (iI (p:Nat))), (4, .int (iI i))] [] H n 0 0) := by
      intro k
      induction k with
      | zero =>
        intro i g H hk ei hg hgf hgw h_a h_b fr
        refine v_iload dX9_shift_34 rfl ?_
        refine w_if_lt 102 dX9_shift_36 (by decide) (by omega) (fun c1 => ?_) (fun c1 => ?_)
        · skip
          refine v_iconst (iI 0) dX9_shift_102 rfl ?_
          refine v_istore (i := 4) (lv' := [(4, .int (iI 0)), (0, .ref a), (2, .int (iI (w:Nat))), (3, .int (iI (p:Nat)))]) dX9_shift_103 (by decide) rfl ?_
          refine w_sub (lv2 := [(0, .ref a), (2, .int (iI (w:Nat))), (3, .int (iI (p:Nat))), (4, .int (iI 0))]) [1, 2, 3, 0] rfl ?_
          exact low w 0 0 g _ (by omega) rfl hg (fun j hj => absurd hj (by omega)) (fun j hj => hgw j (by omega) hj) h_a h_b fr
        · exact absurd c1 (by omega)
      | succ k ih =>
        intro i g H hk ei hg hgf hgw h_a h_b fr
        obtain ⟨A, eA⟩ : ∃ A, nat v k = A := ⟨_, rfl⟩
        obtain ⟨B, eB⟩ : ∃ B, (if k = 0 then 0 else nat v (k - 1)) = B := ⟨_, rfl⟩
        have hA : A < 1073741824 := by rw [← eA]; exact nat_lt _ _
        have hB : B < 1073741824 := by rw [← eB]; split; decide; exact nat_lt _ _
        have hPp : 2 ^ p ≤ 536870912 := by
          have : 2 ^ p ≤ 2 ^ 29 := Nat.pow_le_pow_right (by decide) (by omega)
          omega
        have hBp : B * 2 ^ p ≤ 1073741823 * 536870912 := Nat.mul_le_mul (by omega) hPp
        have eT : nat (v * 2 ^ t) (k + w) = (A * 2 ^ p + B * 2 ^ p / 1073741824) % 1073741824 := by
          rw [et, Nat.add_comm k w]
          rcases Nat.eq_zero_or_pos k with z | z
          · rw [← eA, ← eB, z, if_pos rfl, Nat.add_zero, nat_sh0, Nat.zero_mul, Nat.zero_div, Nat.add_zero]
          · obtain ⟨q, rfl⟩ : ∃ q, k = q + 1 := ⟨k - 1, by omega⟩
            rw [nat_sh1 (by omega), eA, ← eB, if_neg (by omega), Nat.add_sub_cancel]
        have hgk : g k = A := by rw [← eA]; exact hgf k (by omega)
        have j58 : (zV X (fun r h' n' => r = none ∧ n' = n ∧ ND h' a b (v * 2 ^ t) ∧ zFr [a, b] h h') cX9_shift 9 RX9 none d 0 0 58 [(0, .ref a), (2, .int (iI (w:Nat))), (3, .int (iI (p:Nat))), (4, .int (iI i))] [.long (jL (B:Nat))] H n 0 0) := by
          refine v_lstore (i := 5) (lv' := [(5, .long (jL (B:Nat))), (0, .ref a), (2, .int (iI (w:Nat))), (3, .int (iI (p:Nat))), (4, .int (iI i))]) dX9_shift_58 (by decide) rfl ?_
          refine v_aload_n dX9_shift_60 rfl ?_
          refine v_get fX9_9 dX9_shift_61 h_a (by decide) rfl ?_
          refine v_iload dX9_shift_64 rfl ?_
          refine w_nald dX9_shift_66 h_b k (by omega) (by omega) (by decide) ?_
          rw [hgk]
          refine w_ei (A:Nat) rfl ?_
          refine w_i2l dX9_shift_67 (by omega) ?_
          refine v_iload_n dX9_shift_68 rfl ?_
          refine w_lshl dX9_shift_69 p (2 ^ p) rfl (by omega) (by omega) ?_
          refine w_el (A * 2 ^ p:Nat) (by rw [ipw, Int.natCast_mul]) ?_
          refine v_lload dX9_shift_70 rfl ?_
          refine v_iload_n dX9_shift_72 rfl ?_
          refine w_lshl dX9_shift_73 p (2 ^ p) rfl (by omega) (by omega) ?_
          refine w_el (B * 2 ^ p:Nat) (by rw [ipw, Int.natCast_mul]) ?_
          refine v_bipush (iI 30) dX9_shift_74 rfl ?_
          refine w_lushr dX9_shift_76 30 1073741824 rfl rfl (by decide) (by omega) ?_
          have hb1 : B * 2 ^ p / 1073741824 < 2 ^ p := Nat.div_lt_of_lt_mul (Nat.mul_lt_mul_of_pos_right hB (p_pos p))
          refine w_lor dX9_shift_77 p (2 ^ p) rfl (by omega) (by rw [ipw, ← Int.natCast_emod, Nat.mul_mod_left]; rfl) (by rw [ipw]; omega) ?_
          refine w_el (A * 2 ^ p + B * 2 ^ p / 1073741824:Nat) (by rw [Int.natCast_add, Int.natCast_ediv]; rfl) ?_
          refine v_lstore (i := 7) (lv' := [(7, .long (jL (A * 2 ^ p + B * 2 ^ p / 1073741824:Nat))), (5, .long (jL (B:Nat))), (0, .ref a), (2, .int (iI (w:Nat))), (3, .int (iI (p:Nat))), (4, .int (iI i))]) dX9_shift_78 (by decide) rfl ?_
          refine v_aload_n dX9_shift_80 rfl ?_
          refine v_get fX9_9 dX9_shift_81 h_a (by decide) rfl ?_
          refine v_iload dX9_shift_84 rfl ?_
          refine v_iload_n dX9_shift_86 rfl ?_
          refine w_iadd dX9_shift_87 ?_
          refine v_lload dX9_shift_88 rfl ?_
          refine v_ldc2_w (v := jL 1073741823) kX9_19 dX9_shift_90 ?_
          refine w_landm dX9_shift_93 30 1073741824 rfl (by decide) rfl ?_
          refine w_l2i dX9_shift_94 ?_
          refine w_nast dX9_shift_95 h_b (k + w) (by omega) (by omega) (by decide) (nat (v * 2 ^ t) (k + w)) (by rw [eT]; omega) (fun H1 eH1 => ?_)
          obtain ⟨F1, eF1⟩ : ∃ zz9, zz9 = zup g (k + w) (nat (v * 2 ^ t) (k + w)) := ⟨_, rfl⟩
          rw [← eF1] at eH1
          have h_b : H1 b = aN 420 F1 := zf_same eH1
          have h_a := (zf_ne eH1 ne_a_b).trans h_a
          have fr := fr.put eH1 (by simp)
          refine w_iinc (lv' := [(4, .int (iI (i + (-1)))), (7, .long (jL (A * 2 ^ p + B * 2 ^ p / 1073741824:Nat))), (5, .long (jL (B:Nat))), (0, .ref a), (2, .int (iI (w:Nat))), (3, .int (iI (p:Nat)))]) dX9_shift_96 rfl (by decide) rfl ?_
          refine v_goto 34 dX9_shift_99 (by decide) ?_
          refine w_sub (lv2 := [(0, .ref a), (2, .int (iI (w:Nat))), (3, .int (iI (p:Nat))), (4, .int (iI (i + (-1))))]) [3, 4, 5, 0] rfl ?_
          exact ih (i + -1) F1 _ (by omega) (by omega) (by rw [eF1]; exact nw_up hg (nat_lt _ _)) (fun j hj => by rw [eF1, zup_ne _ _ (by omega)]; exact hgf j (by omega)) (fun j h1 h2 => by
            rw [eF1]
            by_cases z : j = k
            · rw [z, zup_same]
            · rw [zup_ne _ _ (by omega)]; exact hgw j (by omega) h2) h_a h_b fr
        refine v_iload dX9_shift_34 rfl ?_
        refine w_if_lt 102 dX9_shift_36 (by decide) (by omega) (fun c1 => ?_) (fun c1 => ?_)
        · exact absurd c1 (by omega)
        · skip
          refine v_iload dX9_shift_39 rfl ?_
          refine w_if_le 57 dX9_shift_41 (by decide) (by omega) (fun c2 => ?_) (fun c2 => ?_)
          · skip
            refine v_lconst (jL 0) dX9_shift_57 rfl ?_
            refine w_el (B:Nat) (by rw [← eB, if_pos (by omega)]; rfl) ?_
            exact j58
          · have hgk1 : g (k - 1) = B := by rw [← eB, if_neg (by omega)]; exact hgf (k - 1) (by omega)
            refine v_aload_n dX9_shift_44 rfl ?_
            refine v_get fX9_9 dX9_shift_45 h_a (by decide) rfl ?_
            refine v_iload dX9_shift_48 rfl ?_
            refine v_iconst (iI 1) dX9_shift_50 rfl ?_
            refine w_isub dX9_shift_51 ?_
            refine w_nald dX9_shift_52 h_b (k - 1) (by omega) (by omega) (by decide) ?_
            rw [hgk1]
            refine w_ei (B:Nat) rfl ?_
            refine w_i2l dX9_shift_53 (by omega) ?_
            refine v_goto 58 dX9_shift_54 (by decide) ?_
            exact j58
    exact loop (u + 1) _ F1 _ (Nat.le_refl _) (by omega) hF1b (fun j hj => hF1 j (by omega)) (fun j h1 h2 => absurd h1 (by omega)) h_a h_b fr
  · have e0 : v = 0 := by rw [← hv, show u = 0 from by omega]; rfl
    exact v_vret dX9_shift_7 trivial (Nat.le_of_ble_eq_true rfl) (Nat.le_of_ble_eq_true rfl) ⟨rfl, rfl, by rw [e0, Nat.zero_mul]; rw [e0] at hw; exact hw, zFr.rf⟩
set_option maxHeartbeats 4000000 in
set_option maxRecDepth 100000 in
theorem p_nbit {d n a b v t : Nat} {h : zH} (hw : ND h a b v) (ht : t < 100000) :
    zM yX9_bit cX9_bit 2 (some .int) d 0 0 [.ref a, .int (iI (t:Nat))] h n (fun r h' n' => r = some (.int (iI (v / 2 ^ t % 2 : Nat))) ∧ n' = n ∧ h' = h) := by
  obtain ⟨u, f, h_a, h_b, hf, hu, hv, -⟩ := hw
  obtain ⟨w, p, ew, ep, et⟩ : ∃ w p : Nat, t / 30 = w ∧ t % 30 = p ∧ t = 30 * w + p := ⟨_, _, rfl, rfl, by omega⟩
  refine zM_of zyX9_bit rfl (Nat.le_of_ble_eq_true rfl) (fun X hX => ?_)
  refine v_iload_n dX9_bit_0 rfl ?_
  refine v_bipush (iI 30) dX9_bit_1 rfl ?_
  refine w_idivn dX9_bit_3 (by omega) (by decide) ?_
  refine w_ei (w:Nat) (by omega) ?_
  refine v_aload_n dX9_bit_4 rfl ?_
  refine v_get fX9_15 dX9_bit_5 h_a (by decide) rfl ?_
  refine w_icmp_ge 30 dX9_bit_8 (by decide) (by omega) (by omega) (fun c1 => ?_) (fun c1 => ?_)
  · have e0 : v / 2 ^ t = 0 := Nat.div_eq_of_lt (Nat.lt_of_lt_of_le (by rw [← hv]; exact nv_lt hf u) (Nat.pow_le_pow_right (by decide) (by omega)))
    refine v_iconst (iI 0) dX9_bit_30 rfl ?_
    exact v_iret dX9_bit_31 trivial (Nat.le_of_ble_eq_true rfl) (Nat.le_of_ble_eq_true rfl) ⟨by rw [e0]; rfl, rfl, rfl⟩
  · have hfw := hf w
    refine v_aload_n dX9_bit_11 rfl ?_
    refine v_get fX9_9 dX9_bit_12 h_a (by decide) rfl ?_
    refine v_iload_n dX9_bit_15 rfl ?_
    refine v_bipush (iI 30) dX9_bit_16 rfl ?_
    refine w_idivn dX9_bit_18 (by omega) (by decide) ?_
    refine w_ei (w:Nat) (by omega) ?_
    refine w_nald dX9_bit_19 h_b w (by omega) (by omega) (by decide) ?_
    refine v_iload_n dX9_bit_20 rfl ?_
    refine v_bipush (iI 30) dX9_bit_21 rfl ?_
    refine w_iremn dX9_bit_23 (by omega) (by decide) ?_
    refine w_ei (p:Nat) (by omega) ?_
    refine w_ishr dX9_bit_24 p (2 ^ p) rfl (by omega) (by omega) (by omega) ?_
    refine w_ei (f w / 2 ^ p:Nat) (by rw [ipw, Int.natCast_ediv]) ?_
    refine v_iconst (iI 1) dX9_bit_25 rfl ?_
    refine w_iandm dX9_bit_26 1 2 rfl (by decide) rfl ?_
    refine v_goto 31 dX9_bit_27 (by decide) ?_
    exact v_iret dX9_bit_31 trivial (Nat.le_of_ble_eq_true rfl) (Nat.le_of_ble_eq_true rfl) ⟨by
      rw [show v / 2 ^ t % 2 = f w / 2 ^ p % 2 from by
        rw [← nv_digit hf (show w < u by omega), hv, et]
        unfold nat
        rw [Nat.pow_add, ← Nat.div_div_eq_div_mul]
        obtain ⟨X, eX⟩ : ∃ X, v / 2 ^ (30 * w) = X := ⟨_, rfl⟩
        rw [eX, show (1073741824 : Nat) = 2 ^ p * 2 ^ (30 - p) from by rw [← Nat.pow_add, show p + (30 - p) = 30 from by omega], Nat.mod_mul_right_div_self, show 30 - p = 1 + (29 - p) from by omega, Nat.pow_add, Nat.mod_mul_right_mod]]
      rfl, rfl, rfl⟩
