/-! Wide: lower, cutDigit, against, copy, copyWords -/
theorem low_step {G c P F W fk wk q r : Int} (h1 : G + c * P = F - W) (e : 4294967296 * q + r = fk - wk + c) : G + r * P + q * (4294967296 * P) = (F + fk * P) - (W + P * wk) := by
  have h2 := congrArg (· * P) e
  simp only [Int.add_mul, Int.sub_mul] at h2
  have e1 : q * (4294967296 * P) = 4294967296 * q * P := by rw [← Int.mul_assoc, Int.mul_comm q]
  rw [e1, Int.mul_comm P wk]
  omega
theorem mod_next (w k : Nat) : w % 2 ^ (32 * (k + 1)) = w % 2 ^ (32 * k) + 2 ^ (32 * k) * wat w k := by
  rw [p32, Nat.mul_comm 4294967296, Nat.mod_mul]; rfl
set_option maxHeartbeats 4000000 in
set_option maxRecDepth 100000 in
theorem p_lower {d n a b c e v w : Nat} {h : zH} (hw : WD h a b v) (hw2 : WD h c e w) (hne : c ≠ a ∧ c ≠ b ∧ e ≠ a ∧ e ≠ b) (hd : 1 ≤ d) (hle : w ≤ v) :
    zM yX7_lower cX7_lower 7 none d 0 0 [.ref a, .ref c] h n (fun r h' n' => r = none ∧ n' = n ∧ WD h' a b (v - w) ∧ zFr [a, b] h h') := by
  obtain ⟨u, f, h_a, h_b, hf, hu, hv, ht⟩ := hw
  have ne_b_a := wne h_a h_b
  have ne_a_b := ne_b_a.symm
  refine zM_of zyX7_lower rfl (Nat.le_of_ble_eq_true rfl) (fun X hX => ?_)
  have fr : zFr [a, b] h h := zFr.rf
  refine v_lconst (jL 0) dX7_lower_0 rfl ?_
  refine v_lstore_n (i := 2) (lv' := [(2, .long (jL 0)), (0, .ref a), (1, .ref c)]) dX7_lower_1 rfl (by decide) rfl ?_
  refine v_iconst (iI 0) dX7_lower_2 rfl ?_
  refine v_istore (i := 4) (lv' := [(4, .int (iI 0)), (2, .long (jL 0)), (0, .ref a), (1, .ref c)]) dX7_lower_3 (by decide) rfl ?_
  refine w_sub (lv2 := [(0, .ref a), (1, .ref c), (2, .long (jL 0)), (4, .int (iI 0))]) [2, 3, 1, 0] rfl ?_
  have loop : ∀ (m k : Nat) (cr i : Int) (g : Nat → Nat) (H : zH), k + m = u → i = k → (cr = 0 ∨ cr = -1) → wb g → (∀ j, k ≤ j → g j = f j) → (wv g k : Int) + cr * (2 ^ (32 * k) : Nat) = wv f k - (w % 2 ^ (32 * k) : Nat) → H a = oWide b u → H b = aN 16 g → zFr [a, b] h H → (zV X (fun r h' n' => r = none ∧ n' = n ∧ WD h' a b (v - w) ∧ zFr [a, b] h h') cX7_lower 7 RX7 none d 0 0 5 [(0, .ref a), (1, .ref c), (2, .long (jL cr)), (4, .int (iI i))] [] H n 0 0) := by
    intro m
    induction m with
    | zero =>
      intro k cr i g H hk ei hc hg hgf inv h_a h_b fr
      have hku : k = u := by omega
      subst hku
      refine v_iload dX7_lower_5 rfl ?_
      refine v_aload_n dX7_lower_7 rfl ?_
      refine v_get fX7_13 dX7_lower_8 h_a (by decide) rfl ?_
      refine w_icmp_ge 59 dX7_lower_11 (by decide) (by omega) (by omega) (fun c1 => ?_) (fun c1 => ?_)
      · skip
        refine v_aload_n dX7_lower_59 rfl ?_
        refine v_cV (av := []) (st := []) zyX7_trim lX7_17 h_a rfl (p_trim (d := 0) (u0 := k) h_a h_b hg hu) dX7_lower_60 rfl rfl (Nat.le_of_ble_eq_true rfl) (by omega) (Nat.le_of_ble_eq_true rfl) (Nat.le_of_ble_eq_true rfl) (Or.inl (fun _ _ _ q => ZN q)) (fun r9 H9 n9 q9 => ?_)
        obtain ⟨rfl, q9n, hw9, fr9⟩ := q9
        have q9n := q9n.symm
        subst q9n
        have h5 : v < 2 ^ (32 * k) := by rw [← hv]; exact wv_lt hf k
        rw [hv, Nat.mod_eq_of_lt (by omega)] at inv
        have h6 := wv_lt hg k
        have e : wv g k = v - w := by
          rcases hc with hc | hc
          · rw [hc, Int.zero_mul] at inv; omega
          · rw [hc] at inv; omega
        rw [e] at hw9
        exact v_vret dX7_lower_63 trivial (Nat.le_of_ble_eq_true rfl) (Nat.le_of_ble_eq_true rfl) ⟨rfl, rfl, hw9, fr.tr fr9 (by simp)⟩
      · exact absurd c1 (by omega)
    | succ m ih =>
      intro k cr i g H hk ei hc hg hgf inv h_a h_b fr
      have hw2 := hw2.fr fr (by simp [hne]) (by simp [hne])
      obtain ⟨u9, f9, h_c, -⟩ := id hw2
      have ne_c_b := hne.2.1
      have hgk := hgf k (Nat.le_refl k)
      have hfk := hf k
      have hwk := wat_lt w k
      refine v_iload dX7_lower_5 rfl ?_
      refine v_aload_n dX7_lower_7 rfl ?_
      refine v_get fX7_13 dX7_lower_8 h_a (by decide) rfl ?_
      refine w_icmp_ge 59 dX7_lower_11 (by decide) (by omega) (by omega) (fun c1 => ?_) (fun c1 => ?_)
      · exact absurd c1 (by omega)
      · skip
        refine v_aload_n dX7_lower_14 rfl ?_
        refine v_get fX7_9 dX7_lower_15 h_a (by decide) rfl ?_
        refine v_iload dX7_lower_18 rfl ?_
        refine w_nald dX7_lower_20 h_b k (by omega) (by omega) (by decide) ?_
        refine w_low dX7_lower_21 kX7_26 dX7_lower_22 dX7_lower_25 ?_
        refine v_aload_n dX7_lower_26 rfl ?_
        refine v_iload dX7_lower_27 rfl ?_
        refine v_cV (av := [.int (iI i)]) (st := [.long (jL ((g k : Nat) % 4294967296))]) zyX7_wordAt lX7_38 h_c rfl (p_wordAt (d := 0) hw2 (by omega)) dX7_lower_29 rfl rfl (Nat.le_of_ble_eq_true rfl) (by omega) (Nat.le_of_ble_eq_true rfl) (Nat.le_of_ble_eq_true rfl) (Or.inl (fun _ _ _ q => ZN q)) (fun r9 K1 n9 q9 => ?_)
        obtain ⟨rfl, q9n, q9h⟩ := q9
        have q9n := q9n.symm
        subst q9n
        have q9h := q9h.symm
        subst q9h
        rw [if_neg (show ¬ i < 0 by omega), show i.toNat = k from by omega]
        refine w_lsub dX7_lower_32 ?_
        refine v_lload_n dX7_lower_33 rfl ?_
        refine w_ladd dX7_lower_34 ?_
        obtain ⟨D, eD⟩ : ∃ yy9 : Int, (((g k : Nat) % 4294967296) - (wat w k:Nat)) + cr = yy9 := ⟨_, rfl⟩
        rw [eD]
        have hD : D = (f k : Int) - wat w k + cr := by rw [← eD, hgk]; omega
        have hD2 : -4294967296 ≤ D ∧ D < 4294967296 := by omega
        refine v_lstore (i := 5) (lv' := [(5, .long (jL D)), (0, .ref a), (1, .ref c), (2, .long (jL cr)), (4, .int (iI i))]) dX7_lower_35 (by decide) rfl ?_
        refine v_aload_n dX7_lower_37 rfl ?_
        refine v_get fX7_9 dX7_lower_38 h_a (by decide) rfl ?_
        refine v_iload dX7_lower_41 rfl ?_
        refine v_lload dX7_lower_43 rfl ?_
        refine w_l2i dX7_lower_45 ?_
        refine w_nast dX7_lower_46 h_b k (by omega) (by omega) (by decide) ((D % 4294967296).toNat) (by omega) (fun H1 eH1 => ?_)
        obtain ⟨F1, eF1⟩ : ∃ zz9, zz9 = zup g k ((D % 4294967296).toNat) := ⟨_, rfl⟩
        rw [← eF1] at eH1
        have h_b : H1 b = aN 16 F1 := zf_same eH1
        have h_a := (zf_ne eH1 ne_a_b).trans h_a
        have h_c := (zf_ne eH1 ne_c_b).trans h_c
        have fr := fr.put eH1 (by simp)
        refine v_lload dX7_lower_47 rfl ?_
        refine v_bipush (iI 32) dX7_lower_49 rfl ?_
        refine w_lshr dX7_lower_51 32 4294967296 rfl rfl (by decide) (by omega) ?_
        refine v_lstore_n (i := 2) (lv' := [(2, .long (jL (D / 4294967296))), (5, .long (jL D)), (0, .ref a), (1, .ref c), (4, .int (iI i))]) dX7_lower_52 rfl (by decide) rfl ?_
        refine w_iinc (lv' := [(4, .int (iI (i + 1))), (2, .long (jL (D / 4294967296))), (5, .long (jL D)), (0, .ref a), (1, .ref c)]) dX7_lower_53 rfl (by decide) rfl ?_
        refine v_goto 5 dX7_lower_56 (by decide) ?_
        refine w_sub (lv2 := [(0, .ref a), (1, .ref c), (2, .long (jL (D / 4294967296))), (4, .int (iI (i + 1)))]) [3, 4, 1, 0] rfl ?_
        refine ih (k + 1) (D / 4294967296) (i + 1) F1 _ (by omega) (by omega) (by omega) (by rw [eF1]; exact wb_up hg (by omega)) (fun j hj => by rw [eF1, zup_ne _ _ (by omega)]; exact hgf j (by omega)) ?_ h_a h_b fr
        rw [eF1, wv_up1, mod_next, p32]
        show _ = ((wv f k + f k * 2 ^ (32 * k) : Nat) : Int) - _
        rw [Int.natCast_add, Int.natCast_add, Int.natCast_add, Int.natCast_mul, Int.natCast_mul, Int.natCast_mul, Int.natCast_mul]
        exact low_step inv (by rw [← hD]; omega)
  exact loop u 0 0 0 f h (by omega) rfl (Or.inl rfl) hf (fun _ _ => rfl) (by rw [Nat.mul_zero, Nat.pow_zero, Nat.mod_one]; simp [wv]) h_a h_b fr
theorem wv_cons (F : Nat → Nat) (m : Nat) : wv F (m + 1) = F 0 + 4294967296 * wv (fun i => F (i + 1)) m := by
  rw [Nat.add_comm m 1, wv_split F 1 m]
  have e1 : wv F 1 = F 0 := by show 0 + F 0 * 1 = F 0; omega
  rw [e1, wv_congr m (g := fun i => F (i + 1)) (fun i _ => by rw [Nat.add_comm])]
set_option maxHeartbeats 4000000 in
set_option maxRecDepth 100000 in
theorem p_cutDigit {d n a b v : Nat} {h : zH} (hw : WD h a b v) (hd : 1 ≤ d) :
    zM yX7_cutDigit cX7_cutDigit 6 (some .int) d 0 0 [.ref a] h n (fun r h' n' => r = some (.int (iI (v % 10 : Nat))) ∧ n' = n ∧ WD h' a b (v / 10) ∧ zFr [a, b] h h') := by
  obtain ⟨u, f, h_a, h_b, hf, hu, hv, ht⟩ := hw
  have ne_b_a := wne h_a h_b
  have ne_a_b := ne_b_a.symm
  refine zM_of zyX7_cutDigit rfl (Nat.le_of_ble_eq_true rfl) (fun X hX => ?_)
  have fr : zFr [a, b] h h := zFr.rf
  refine v_lconst (jL 0) dX7_cutDigit_0 rfl ?_
  refine v_lstore_n (i := 1) (lv' := [(1, .long (jL 0)), (0, .ref a)]) dX7_cutDigit_1 rfl (by decide) rfl ?_
  refine v_aload_n dX7_cutDigit_2 rfl ?_
  refine v_get fX7_13 dX7_cutDigit_3 h_a (by decide) rfl ?_
  refine v_iconst (iI 1) dX7_cutDigit_6 rfl ?_
  refine w_isub dX7_cutDigit_7 ?_
  refine v_istore_n (i := 3) (lv' := [(3, .int (iI ((u:Nat) - 1))), (1, .long (jL 0)), (0, .ref a)]) dX7_cutDigit_8 rfl (by decide) rfl ?_
  refine w_sub (lv2 := [(0, .ref a), (1, .long (jL 0)), (3, .int (iI ((u:Nat) - 1)))]) [2, 1, 0] rfl ?_
  have loop : ∀ (k m r : Nat) (i : Int) (g : Nat → Nat) (H : zH), k + m = u → i = (k : Int) - 1 → r < 10 → wb g → (∀ j, j < k → g j = f j) → wv (fun j => f (j + k)) m = 10 * wv (fun j => g (j + k)) m + r → H a = oWide b u → H b = aN 16 g → zFr [a, b] h H → (zV X (fun r h' n' => r = some (.int (iI (v % 10 : Nat))) ∧ n' = n ∧ WD h' a b (v / 10) ∧ zFr [a, b] h h') cX7_cutDigit 6 RX7 (some .int) d 0 0 9 [(0, .ref a), (1, .long (jL (r:Nat))), (3, .int (iI i))] [] H n 0 0) := by
    intro k
    induction k with
    | zero =>
      intro m r i g H hk ei hr hg hgf inv h_a h_b fr
      have hku : m = u := by omega
      subst hku
      refine v_iload_n dX7_cutDigit_9 rfl ?_
      refine w_if_lt 57 dX7_cutDigit_10 (by decide) (by omega) (fun c1 => ?_) (fun c1 => ?_)
      · skip
        refine v_aload_n dX7_cutDigit_57 rfl ?_
        refine v_cV (av := []) (st := []) zyX7_trim lX7_17 h_a rfl (p_trim (d := 0) (u0 := m) h_a h_b hg hu) dX7_cutDigit_58 rfl rfl (Nat.le_of_ble_eq_true rfl) (by omega) (Nat.le_of_ble_eq_true rfl) (Nat.le_of_ble_eq_true rfl) (Or.inl (fun _ _ _ q => ZN q)) (fun r9 H9 n9 q9 => ?_)
        obtain ⟨rfl, q9n, hw9, fr9⟩ := q9
        have q9n := q9n.symm
        subst q9n
        have e1 : v = 10 * wv g m + r := by rw [← hv]; exact inv
        have e : wv g m = v / 10 := by omega
        rw [e] at hw9
        refine v_lload_n dX7_cutDigit_61 rfl ?_
        refine w_l2i dX7_cutDigit_62 ?_
        exact v_iret dX7_cutDigit_63 trivial (Nat.le_of_ble_eq_true rfl) (Nat.le_of_ble_eq_true rfl) ⟨by rw [show v % 10 = r from by omega], rfl, hw9, fr.tr fr9 (by simp)⟩
      · exact absurd c1 (by omega)
    | succ k ih =>
      intro m r i g H hk ei hr hg hgf inv h_a h_b fr
      have hgk := hgf k (by omega)
      have hfk := hf k
      refine v_iload_n dX7_cutDigit_9 rfl ?_
      refine w_if_lt 57 dX7_cutDigit_10 (by decide) (by omega) (fun c1 => ?_) (fun c1 => ?_)
      · exact absurd c1 (by omega)
      · skip
        refine v_lload_n dX7_cutDigit_13 rfl ?_
        refine v_bipush (iI 32) dX7_cutDigit_14 rfl ?_
        refine w_lshl dX7_cutDigit_16 32 4294967296 rfl rfl (by decide) ?_
        refine v_aload_n dX7_cutDigit_17 rfl ?_
        refine v_get fX7_9 dX7_cutDigit_18 h_a (by decide) rfl ?_
        refine v_iload_n dX7_cutDigit_21 rfl ?_
        refine w_nald dX7_cutDigit_22 h_b k (by omega) (by omega) (by decide) ?_
        refine w_low dX7_cutDigit_23 kX7_26 dX7_cutDigit_24 dX7_cutDigit_27 ?_
        refine w_lor dX7_cutDigit_28 32 4294967296 rfl (by decide) (by omega) (by omega) ?_
        obtain ⟨y, ey⟩ : ∃ y, r * 4294967296 + f k = y := ⟨_, rfl⟩
        refine w_el (y:Nat) (by rw [hgk, ← ey]; omega) ?_
        have hy : y < 42949672960 := by omega
        refine v_lstore (i := 4) (lv' := [(4, .long (jL (y:Nat))), (0, .ref a), (1, .long (jL (r:Nat))), (3, .int (iI i))]) dX7_cutDigit_29 (by decide) rfl ?_
        refine v_aload_n dX7_cutDigit_31 rfl ?_
        refine v_get fX7_9 dX7_cutDigit_32 h_a (by decide) rfl ?_
        refine v_iload_n dX7_cutDigit_35 rfl ?_
        refine v_lload dX7_cutDigit_36 rfl ?_
        refine v_ldc2_w (v := jL 10) kX7_42 dX7_cutDigit_38 ?_
        refine w_ldivn dX7_cutDigit_41 (by omega) (by decide) ?_
        refine w_l2i dX7_cutDigit_42 ?_
        refine w_nast dX7_cutDigit_43 h_b k (by omega) (by omega) (by decide) (y / 10) (by omega) (fun H1 eH1 => ?_)
        obtain ⟨F1, eF1⟩ : ∃ zz9, zz9 = zup g k (y / 10) := ⟨_, rfl⟩
        rw [← eF1] at eH1
        have h_b : H1 b = aN 16 F1 := zf_same eH1
        have h_a := (zf_ne eH1 ne_a_b).trans h_a
        have fr := fr.put eH1 (by simp)
        refine v_lload dX7_cutDigit_44 rfl ?_
        refine v_ldc2_w (v := jL 10) kX7_42 dX7_cutDigit_46 ?_
        refine w_lremn dX7_cutDigit_49 (by omega) (by decide) ?_
        refine v_lstore_n (i := 1) (lv' := [(1, .long (jL ((y:Nat) % 10))), (4, .long (jL (y:Nat))), (0, .ref a), (3, .int (iI i))]) dX7_cutDigit_50 rfl (by decide) rfl ?_
        refine w_iinc (lv' := [(3, .int (iI (i + (-1)))), (1, .long (jL ((y:Nat) % 10))), (4, .long (jL (y:Nat))), (0, .ref a)]) dX7_cutDigit_51 rfl (by decide) rfl ?_
        refine v_goto 9 dX7_cutDigit_54 (by decide) ?_
        refine w_sub (lv2 := [(0, .ref a), (1, .long (jL ((y:Nat) % 10))), (3, .int (iI (i + (-1))))]) [3, 1, 0] rfl ?_
        refine ih (m + 1) (y % 10) (i + -1) F1 _ (by omega) (by omega) (by omega) (by rw [eF1]; exact wb_up hg (by omega)) (fun j hj => by rw [eF1, zup_ne _ _ (by omega)]; exact hgf j (by omega)) ?_ h_a h_b fr
        rw [wv_cons, wv_cons]
        have e1 : wv (fun j => f (j + 1 + k)) m = wv (fun j => f (j + (k + 1))) m := wv_congr m (fun j _ => by rw [Nat.add_right_comm, Nat.add_assoc])
        have e2 : wv (fun j => F1 (j + 1 + k)) m = wv (fun j => g (j + (k + 1))) m := wv_congr m (fun j _ => by rw [eF1, zup_ne _ _ (by omega), Nat.add_right_comm, Nat.add_assoc])
        have e3 : F1 (0 + k) = y / 10 := by rw [eF1, Nat.zero_add]; exact zup_same _ _ _
        show f (0 + k) + 4294967296 * wv (fun j => f (j + 1 + k)) m = 10 * (F1 (0 + k) + 4294967296 * wv (fun j => F1 (j + 1 + k)) m) + y % 10
        rw [e1, e2, e3, inv, Nat.zero_add]
        omega
  exact loop u 0 0 _ f h (by omega) rfl (by decide) hf (fun _ _ => rfl) rfl h_a h_b fr
/-- three ways -/
def cmpz (v w : Nat) : Int := if v < w then -1 else if v = w then 0 else 1
theorem wv_less {f g : Nat → Nat} (hf : wb f) {k u : Nat} (hk : k < u) (hs : ∀ j, k < j → j < u → f j = g j) (hl : f k < g k) : wv f u < wv g u := by
  obtain ⟨m, rfl⟩ : ∃ m, u = (k + 1) + m := ⟨u - k - 1, by omega⟩
  rw [wv_split f, wv_split g, wv_congr (f := fun i => f (k + 1 + i)) (g := fun i => g (k + 1 + i)) m (fun i hi => hs _ (by omega) (by omega))]
  have h1 := wv_lt hf k
  have h2 : (f k + 1) * 2 ^ (32 * k) ≤ g k * 2 ^ (32 * k) := Nat.mul_le_mul_right _ hl
  rw [Nat.add_mul, Nat.one_mul] at h2
  show wv f k + f k * 2 ^ (32 * k) + _ < wv g k + g k * 2 ^ (32 * k) + _
  omega
theorem wd_less {f g : Nat → Nat} (hf : wb f) {u w : Nat} (h : u < w) (ht : w = 0 ∨ g (w - 1) ≠ 0) : wv f u < wv g w := by
  rcases WD.top ht with q | q
  · omega
  · have := wv_lt hf u
    have h2 : 2 ^ (32 * u) ≤ 2 ^ (32 * (w - 1)) := Nat.pow_le_pow_right (by decide) (by omega)
    omega
set_option maxHeartbeats 4000000 in
set_option maxRecDepth 100000 in
theorem p_against {d n a b c e v w : Nat} {h : zH} (hw : WD h a b v) (hw2 : WD h c e w) :
    zM yX7_against cX7_against 7 (some .int) d 0 0 [.ref a, .ref c] h n (fun r h' n' => r = some (.int (iI (cmpz v w))) ∧ n' = n ∧ h' = h) := by
  obtain ⟨u, f, h_a, h_b, hf, hu, hv, ht⟩ := hw
  obtain ⟨u2, g, h_c, h_e, hg, hu2, hv2, ht2⟩ := hw2
  refine zM_of zyX7_against rfl (Nat.le_of_ble_eq_true rfl) (fun X hX => ?_)
  refine v_aload_n dX7_against_0 rfl ?_
  refine v_get fX7_13 dX7_against_1 h_a (by decide) rfl ?_
  refine v_aload_n dX7_against_4 rfl ?_
  refine v_get fX7_13 dX7_against_5 h_c (by decide) rfl ?_
  refine w_icmp_eq 28 dX7_against_8 (by decide) (by omega) (by omega) (fun c1 => ?_) (fun c1 => ?_)
  · have hu3 : u = u2 := by omega
    subst hu3
    refine v_aload_n dX7_against_28 rfl ?_
    refine v_get fX7_13 dX7_against_29 h_a (by decide) rfl ?_
    refine v_iconst (iI 1) dX7_against_32 rfl ?_
    refine w_isub dX7_against_33 ?_
    refine v_istore_n (i := 2) (lv' := [(2, .int (iI ((u:Nat) - 1))), (0, .ref a), (1, .ref c)]) dX7_against_34 rfl (by decide) rfl ?_
    refine w_sub (lv2 := [(0, .ref a), (1, .ref c), (2, .int (iI ((u:Nat) - 1)))]) [1, 2, 0] rfl ?_
    have loop : ∀ (k : Nat) (i : Int), k ≤ u → i = (k : Int) - 1 → (∀ j, k ≤ j → j < u → f j = g j) → (zV X (fun r h' n' => r = some (.int (iI (cmpz v w))) ∧ n' = n ∧ h' = h) cX7_against 7 RX7 (some .int) d 0 0 35 [(0, .ref a), (1, .ref c), (2, .int (iI i))] [] h n 0 0) := by
      intro k
      induction k with
      | zero =>
        intro i hk ei hs
        refine v_iload_n dX7_against_35 rfl ?_
        refine w_if_lt 90 dX7_against_36 (by decide) (by omega) (fun c2 => ?_) (fun c2 => ?_)
        · skip
          refine v_iconst (iI 0) dX7_against_90 rfl ?_
          exact v_iret dX7_against_91 trivial (Nat.le_of_ble_eq_true rfl) (Nat.le_of_ble_eq_true rfl) ⟨by rw [show v = w from by rw [← hv, ← hv2]; exact wv_congr u (fun j hj => hs j (by omega) hj)]; unfold cmpz; rw [if_neg (Nat.lt_irrefl w), if_pos rfl], rfl, rfl⟩
        · exact absurd c2 (by omega)
      | succ k ih =>
        intro i hk ei hs
        refine v_iload_n dX7_against_35 rfl ?_
        refine w_if_lt 90 dX7_against_36 (by decide) (by omega) (fun c2 => ?_) (fun c2 => ?_)
        · exact absurd c2 (by omega)
        · have hfk := hf k
          have hgk := hg k
          refine v_aload_n dX7_against_39 rfl ?_
          refine v_get fX7_9 dX7_against_40 h_a (by decide) rfl ?_
          refine v_iload_n dX7_against_43 rfl ?_
          refine w_nald dX7_against_44 h_b k (by omega) (by omega) (by decide) ?_
          refine w_low dX7_against_45 kX7_26 dX7_against_46 dX7_against_49 ?_
          refine w_el (f k:Nat) (by omega) ?_
          refine v_lstore_n (i := 3) (lv' := [(3, .long (jL (f k:Nat))), (0, .ref a), (1, .ref c), (2, .int (iI i))]) dX7_against_50 rfl (by decide) rfl ?_
          refine v_aload_n dX7_against_51 rfl ?_
          refine v_get fX7_9 dX7_against_52 h_c (by decide) rfl ?_
          refine v_iload_n dX7_against_55 rfl ?_
          refine w_nald dX7_against_56 h_e k (by omega) (by omega) (by decide) ?_
          refine w_low dX7_against_57 kX7_26 dX7_against_58 dX7_against_61 ?_
          refine w_el (g k:Nat) (by omega) ?_
          refine v_lstore (i := 5) (lv' := [(5, .long (jL (g k:Nat))), (3, .long (jL (f k:Nat))), (0, .ref a), (1, .ref c), (2, .int (iI i))]) dX7_against_62 (by decide) rfl ?_
          refine v_lload_n dX7_against_64 rfl ?_
          refine v_lload dX7_against_65 rfl ?_
          refine w_lcmp_eq 84 dX7_against_67 dX7_against_68 (by decide) (by omega) (by omega) (fun c3 => ?_) (fun c3 => ?_)
          · skip
            refine w_iinc (lv' := [(2, .int (iI (i + (-1)))), (5, .long (jL (g k:Nat))), (3, .long (jL (f k:Nat))), (0, .ref a), (1, .ref c)]) dX7_against_84 rfl (by decide) rfl ?_
            refine v_goto 35 dX7_against_87 (by decide) ?_
            refine w_sub (lv2 := [(0, .ref a), (1, .ref c), (2, .int (iI (i + (-1))))]) [3, 4, 0] rfl ?_
            exact ih (i + -1) (by omega) (by omega) (fun j h1 h2 => by
              rcases Nat.eq_or_lt_of_le h1 with q | q
              · rw [← q]; omega
              · exact hs j (by omega) h2)
          · skip
            refine v_lload_n dX7_against_71 rfl ?_
            refine v_lload dX7_against_72 rfl ?_
            refine w_lcmp_ge 82 dX7_against_74 dX7_against_75 (by decide) (by omega) (by omega) (fun c4 => ?_) (fun c4 => ?_)
            · have := wv_less hg (show k < u by omega) (fun j h1 h2 => (hs j (by omega) h2).symm) (show g k < f k by omega)
              refine v_iconst (iI 1) dX7_against_82 rfl ?_
              exact v_iret dX7_against_83 trivial (Nat.le_of_ble_eq_true rfl) (Nat.le_of_ble_eq_true rfl) ⟨by unfold cmpz; rw [if_neg (by omega), if_neg (by omega)], rfl, rfl⟩
            · have := wv_less hf (show k < u by omega) (fun j h1 h2 => (hs j (by omega) h2)) (show f k < g k by omega)
              refine v_iconst (iI (-1)) dX7_against_78 rfl ?_
              refine v_goto 83 dX7_against_79 (by decide) ?_
              exact v_iret dX7_against_83 trivial (Nat.le_of_ble_eq_true rfl) (Nat.le_of_ble_eq_true rfl) ⟨by unfold cmpz; rw [if_pos (by omega)], rfl, rfl⟩
    exact loop u _ (Nat.le_refl u) rfl (fun j h1 h2 => by omega)
  · skip
    refine v_aload_n dX7_against_11 rfl ?_
    refine v_get fX7_13 dX7_against_12 h_a (by decide) rfl ?_
    refine v_aload_n dX7_against_15 rfl ?_
    refine v_get fX7_13 dX7_against_16 h_c (by decide) rfl ?_
    refine w_icmp_ge 26 dX7_against_19 (by decide) (by omega) (by omega) (fun c2 => ?_) (fun c2 => ?_)
    · have := wd_less hg (show u2 < u by omega) ht
      refine v_iconst (iI 1) dX7_against_26 rfl ?_
      exact v_iret dX7_against_27 trivial (Nat.le_of_ble_eq_true rfl) (Nat.le_of_ble_eq_true rfl) ⟨by unfold cmpz; rw [if_neg (by omega), if_neg (by omega)], rfl, rfl⟩
    · have := wd_less hf (show u < u2 by omega) ht2
      refine v_iconst (iI (-1)) dX7_against_22 rfl ?_
      refine v_goto 27 dX7_against_23 (by decide) ?_
      exact v_iret dX7_against_27 trivial (Nat.le_of_ble_eq_true rfl) (Nat.le_of_ble_eq_true rfl) ⟨by unfold cmpz; rw [if_pos (by omega)], rfl, rfl⟩
