/-! Wide: grow, shiftUp, lower and their like -/
theorem WD.top {f : Nat → Nat} {u : Nat} (h : u = 0 ∨ f (u - 1) ≠ 0) : u = 0 ∨ 2 ^ (32 * (u - 1)) ≤ wv f u := by
  rcases h with h | h
  · exact Or.inl h
  · rcases Nat.eq_zero_or_pos u with q | q
    · exact Or.inl q
    · right
      obtain ⟨m, rfl⟩ : ∃ m, u = m + 1 := ⟨u - 1, by omega⟩
      rw [Nat.add_sub_cancel] at h ⊢
      show _ ≤ wv f m + f m * 2 ^ (32 * m)
      have : 1 * 2 ^ (32 * m) ≤ f m * 2 ^ (32 * m) := Nat.mul_le_mul_right _ (by omega)
      omega
set_option maxHeartbeats 4000000 in
set_option maxRecDepth 100000 in
theorem p_isNought {d n a b v : Nat} {h : zH} (hw : WD h a b v) :
    zM yX7_isNought cX7_isNought 1 (some .boolean) d 0 0 [.ref a] h n (fun r h' n' => r = some (.int (iI (bz (decide (v = 0))))) ∧ n' = n ∧ h' = h) := by
  obtain ⟨u, f, h_a, h_b, hf, hu, hv, ht⟩ := hw
  have ht := WD.top ht
  refine zM_of zyX7_isNought rfl (Nat.le_of_ble_eq_true rfl) (fun X hX => ?_)
  refine v_aload_n dX7_isNought_0 rfl ?_
  refine v_get fX7_13 dX7_isNought_1 h_a (by decide) rfl ?_
  refine w_if_ne 11 dX7_isNought_4 (by decide) (by omega) (fun c1 => ?_) (fun c1 => ?_)
  · have hp := p_pos (32 * (u - 1))
    refine v_iconst (iI 0) dX7_isNought_11 rfl ?_
    refine w_ei (bz false) rfl ?_
    exact v_iret dX7_isNought_12 bz_ret (Nat.le_of_ble_eq_true rfl) (Nat.le_of_ble_eq_true rfl) ⟨by rw [decide_eq_false (by omega)], rfl, rfl⟩
  · have : v = 0 := by rw [← hv, show u = 0 from by omega]; rfl
    refine v_iconst (iI 1) dX7_isNought_7 rfl ?_
    refine v_goto 12 dX7_isNought_8 (by decide) ?_
    refine w_ei (bz true) rfl ?_
    exact v_iret dX7_isNought_12 bz_ret (Nat.le_of_ble_eq_true rfl) (Nat.le_of_ble_eq_true rfl) ⟨by rw [decide_eq_true this], rfl, rfl⟩
set_option maxHeartbeats 4000000 in
set_option maxRecDepth 100000 in
theorem p_wordAt0 {d n a b u : Nat} {f : Nat → Nat} {i : Int} {h : zH} (h_a : h a = oWide b u) (h_b : h b = aN 16 f) (hf : wb f) (hu : u ≤ 16) (hi : -1000000 ≤ i ∧ i < 1000000) :
    zM yX7_wordAt cX7_wordAt 2 (some .long) d 0 0 [.ref a, .int (iI i)] h n (fun r h' n' => r = some (.long (jL ((if i < 0 then 0 else if i.toNat < u then f i.toNat else 0 : Nat)))) ∧ n' = n ∧ h' = h) := by
  refine zM_of zyX7_wordAt rfl (Nat.le_of_ble_eq_true rfl) (fun X hX => ?_)
  refine v_iload_n dX7_wordAt_0 rfl ?_
  refine w_if_lt 26 dX7_wordAt_1 (by decide) (by omega) (fun c1 => ?_) (fun c1 => ?_)
  · skip
    refine v_lconst (jL 0) dX7_wordAt_26 rfl ?_
    exact v_lret dX7_wordAt_27 trivial (Nat.le_of_ble_eq_true rfl) (Nat.le_of_ble_eq_true rfl) ⟨by rw [if_pos c1]; rfl, rfl, rfl⟩
  · skip
    refine v_iload_n dX7_wordAt_4 rfl ?_
    refine v_aload_n dX7_wordAt_5 rfl ?_
    refine v_get fX7_13 dX7_wordAt_6 h_a (by decide) rfl ?_
    refine w_icmp_ge 26 dX7_wordAt_9 (by decide) (by omega) (by omega) (fun c2 => ?_) (fun c2 => ?_)
    · skip
      refine v_lconst (jL 0) dX7_wordAt_26 rfl ?_
      exact v_lret dX7_wordAt_27 trivial (Nat.le_of_ble_eq_true rfl) (Nat.le_of_ble_eq_true rfl) ⟨by rw [if_neg c1, if_neg (by omega)]; rfl, rfl, rfl⟩
    · skip
      refine v_aload_n dX7_wordAt_12 rfl ?_
      refine v_get fX7_9 dX7_wordAt_13 h_a (by decide) rfl ?_
      refine v_iload_n dX7_wordAt_16 rfl ?_
      refine w_nald dX7_wordAt_17 h_b i.toNat (by omega) (by omega) (by decide) ?_
      refine w_low dX7_wordAt_18 kX7_26 dX7_wordAt_19 dX7_wordAt_22 ?_
      refine v_goto 27 dX7_wordAt_23 (by decide) ?_
      have := hf i.toNat
      exact v_lret dX7_wordAt_27 trivial (Nat.le_of_ble_eq_true rfl) (Nat.le_of_ble_eq_true rfl) ⟨by rw [if_neg c1, if_pos (by omega), Int.emod_eq_of_lt (by omega) (by omega)], rfl, rfl⟩
theorem grow_step {G c P F x y fk q r : Nat} (h1 : G + c * P = F * x + y) (e : 4294967296 * q + r = fk * x + c) : G + r * P + q * (4294967296 * P) = (F + fk * P) * x + y := by
  have h2 := congrArg (· * P) e
  simp only [Nat.add_mul] at h2
  rw [Nat.add_mul]
  have e1 : q * (4294967296 * P) = 4294967296 * q * P := by rw [← Nat.mul_assoc, Nat.mul_comm q]
  have e2 : fk * P * x = fk * x * P := by rw [Nat.mul_assoc, Nat.mul_comm P, ← Nat.mul_assoc]
  omega
set_option maxHeartbeats 4000000 in
set_option maxRecDepth 100000 in
theorem p_grow {d n a b v x y : Nat} {h : zH} (hw : WD h a b v) (hd : 1 ≤ d) (hx : x < 4294967296) (hy : y < 4294967296) (hb : v * x + y < 2 ^ 512) :
    zM yX7_grow cX7_grow 10 none d 0 0 [.ref a, .long (jL (x:Nat)), .long (jL (y:Nat))] h n (fun r h' n' => r = none ∧ n' = n ∧ WD h' a b (v * x + y) ∧ zFr [a, b] h h') := by
  obtain ⟨u, f, h_a, h_b, hf, hu, hv, ht⟩ := hw
  have ne_b_a := wne h_a h_b
  have ne_a_b := ne_b_a.symm
  refine zM_of zyX7_grow rfl (Nat.le_of_ble_eq_true rfl) (fun X hX => ?_)
  have fr : zFr [a, b] h h := zFr.rf
  refine v_lload_n dX7_grow_0 rfl ?_
  refine v_lstore (i := 5) (lv' := [(5, .long (jL (y:Nat))), (0, .ref a), (1, .long (jL (x:Nat))), (3, .long (jL (y:Nat)))]) dX7_grow_1 (by decide) rfl ?_
  refine v_iconst (iI 0) dX7_grow_3 rfl ?_
  refine v_istore (i := 7) (lv' := [(7, .int (iI 0)), (5, .long (jL (y:Nat))), (0, .ref a), (1, .long (jL (x:Nat))), (3, .long (jL (y:Nat)))]) dX7_grow_4 (by decide) rfl ?_
  refine w_sub (lv2 := [(0, .ref a), (1, .long (jL (x:Nat))), (5, .long (jL (y:Nat))), (7, .int (iI 0))]) [2, 3, 1, 0] rfl ?_
  have loop : ∀ (m k c : Nat) (i : Int) (g : Nat → Nat) (H : zH), k + m = u → i = k → c < 4294967296 → wb g → (∀ j, k ≤ j → g j = f j) → wv g k + c * 2 ^ (32 * k) = wv f k * x + y → H a = oWide b u → H b = aN 16 g → zFr [a, b] h H → (zV X (fun r h' n' => r = none ∧ n' = n ∧ WD h' a b (v * x + y) ∧ zFr [a, b] h h') cX7_grow 10 RX7 none d 0 0 6 [(0, .ref a), (1, .long (jL (x:Nat))), (5, .long (jL (c:Nat))), (7, .int (iI i))] [] H n 0 0) := by
    intro m
    induction m with
    | zero =>
      intro k c i g H hk ei hc hg hgf inv h_a h_b fr
      have hku : k = u := by omega
      subst hku
      refine v_iload dX7_grow_6 rfl ?_
      refine v_aload_n dX7_grow_8 rfl ?_
      refine v_get fX7_13 dX7_grow_9 h_a (by decide) rfl ?_
      refine w_icmp_ge 57 dX7_grow_12 (by decide) (by omega) (by omega) (fun c1 => ?_) (fun c1 => ?_)
      · skip
        refine v_lload dX7_grow_57 rfl ?_
        refine v_lconst (jL 0) dX7_grow_59 rfl ?_
        rw [hv] at inv
        refine w_lcmp_eq 95 dX7_grow_60 dX7_grow_61 (by decide) (by omega) (by decide) (fun c2 => ?_) (fun c2 => ?_)
        · skip
          refine v_aload_n dX7_grow_95 rfl ?_
          refine v_cV (av := []) (st := []) zyX7_trim lX7_17 h_a rfl (p_trim (d := 0) (u0 := k) h_a h_b hg hu) dX7_grow_96 rfl rfl (Nat.le_of_ble_eq_true rfl) (by omega) (Nat.le_of_ble_eq_true rfl) (Nat.le_of_ble_eq_true rfl) (Or.inl (fun _ _ _ q => ZN q)) (fun r9 H9 n9 q9 => ?_)
          obtain ⟨rfl, q9n, hw9, fr9⟩ := q9
          have q9n := q9n.symm
          subst q9n
          have e : wv g k = v * x + y := by rw [show c = 0 from by omega] at inv; omega
          rw [e] at hw9
          exact v_vret dX7_grow_99 trivial (Nat.le_of_ble_eq_true rfl) (Nat.le_of_ble_eq_true rfl) ⟨rfl, rfl, hw9, fr.tr fr9 (by simp)⟩
        · skip
          refine v_aload_n dX7_grow_64 rfl ?_
          refine v_get fX7_13 dX7_grow_65 h_a (by decide) rfl ?_
          refine v_bipush (iI 16) dX7_grow_68 rfl ?_
          refine w_icmp_ge 95 dX7_grow_70 (by decide) (by omega) (by decide) (fun c3 => ?_) (fun c3 => ?_)
          · exfalso
            have e : k = 16 := by omega
            rw [e] at inv
            have : 1 * 2 ^ (32 * 16) ≤ c * 2 ^ (32 * 16) := Nat.mul_le_mul_right _ (by omega)
            omega
          · skip
            refine v_aload_n dX7_grow_73 rfl ?_
            refine v_get fX7_9 dX7_grow_74 h_a (by decide) rfl ?_
            refine v_aload_n dX7_grow_77 rfl ?_
            refine v_get fX7_13 dX7_grow_78 h_a (by decide) rfl ?_
            refine v_lload dX7_grow_81 rfl ?_
            refine w_l2i dX7_grow_83 ?_
            refine w_nast dX7_grow_84 h_b k (by omega) (by omega) (by decide) c (by omega) (fun H1 eH1 => ?_)
            obtain ⟨F1, eF1⟩ : ∃ zz9, zz9 = zup g k c := ⟨_, rfl⟩
            rw [← eF1] at eH1
            have h_b : H1 b = aN 16 F1 := zf_same eH1
            have h_a := (zf_ne eH1 ne_a_b).trans h_a
            have fr := fr.put eH1 (by simp)
            refine v_aload_n dX7_grow_85 rfl ?_
            refine v_dup dX7_grow_86 rfl ?_
            refine v_get fX7_13 dX7_grow_87 h_a (by decide) rfl ?_
            refine v_iconst (iI 1) dX7_grow_90 rfl ?_
            refine w_iadd dX7_grow_91 ?_
            refine w_ei (k+1:Nat) (by omega) ?_
            refine v_put (fs' := [.ref b, .int (iI (k+1:Nat))]) fX7_13 dX7_grow_92 h_a (by decide) (Nat.le_of_ble_eq_true rfl) rfl rfl rfl (fun H2 eH2 => ?_)
            have h_a : H2 a = oWide b (k+1:Nat) := zf_same eH2
            have h_b := (zf_ne eH2 ne_b_a).trans h_b
            have fr := fr.put eH2 (by simp)
            refine v_aload_n dX7_grow_95 rfl ?_
            have hg1 : wb F1 := by rw [eF1]; exact wb_up hg hc
            refine v_cV (av := []) (st := []) zyX7_trim lX7_17 h_a rfl (p_trim (d := 0) (u0 := k + 1) h_a h_b hg1 (by omega)) dX7_grow_96 rfl rfl (Nat.le_of_ble_eq_true rfl) (by omega) (Nat.le_of_ble_eq_true rfl) (Nat.le_of_ble_eq_true rfl) (Or.inl (fun _ _ _ q => ZN q)) (fun r9 H9 n9 q9 => ?_)
            obtain ⟨rfl, q9n, hw9, fr9⟩ := q9
            have q9n := q9n.symm
            subst q9n
            have e : wv F1 (k + 1) = v * x + y := by rw [eF1, wv_up1]; exact inv
            rw [e] at hw9
            exact v_vret dX7_grow_99 trivial (Nat.le_of_ble_eq_true rfl) (Nat.le_of_ble_eq_true rfl) ⟨rfl, rfl, hw9, fr.tr fr9 (by simp)⟩
      · exact absurd c1 (by omega)
    | succ m ih =>
      intro k c i g H hk ei hc hg hgf inv h_a h_b fr
      refine v_iload dX7_grow_6 rfl ?_
      refine v_aload_n dX7_grow_8 rfl ?_
      refine v_get fX7_13 dX7_grow_9 h_a (by decide) rfl ?_
      refine w_icmp_ge 57 dX7_grow_12 (by decide) (by omega) (by omega) (fun c1 => ?_) (fun c1 => ?_)
      · exact absurd c1 (by omega)
      · have hgk := hgf k (Nat.le_refl k)
        have hfk := hf k
        have hp1 : f k * x ≤ 4294967295 * 4294967295 := Nat.mul_le_mul (by omega) (by omega)
        refine v_aload_n dX7_grow_15 rfl ?_
        refine v_get fX7_9 dX7_grow_16 h_a (by decide) rfl ?_
        refine v_iload dX7_grow_19 rfl ?_
        refine w_nald dX7_grow_21 h_b k (by omega) (by omega) (by decide) ?_
        refine w_low dX7_grow_22 kX7_26 dX7_grow_23 dX7_grow_26 ?_
        refine v_lload_n dX7_grow_27 rfl ?_
        refine w_lmul dX7_grow_28 ?_
        refine v_lload dX7_grow_29 rfl ?_
        refine w_ladd dX7_grow_31 ?_
        obtain ⟨p, ep⟩ : ∃ p, f k * x + c = p := ⟨_, rfl⟩
        refine w_el (p:Nat) (by rw [hgk, Int.emod_eq_of_lt (by omega) (by omega), ← ep]; simp) ?_
        refine v_lstore (i := 8) (lv' := [(8, .long (jL (p:Nat))), (0, .ref a), (1, .long (jL (x:Nat))), (5, .long (jL (c:Nat))), (7, .int (iI i))]) dX7_grow_32 (by decide) rfl ?_
        refine v_aload_n dX7_grow_34 rfl ?_
        refine v_get fX7_9 dX7_grow_35 h_a (by decide) rfl ?_
        refine v_iload dX7_grow_38 rfl ?_
        refine v_lload dX7_grow_40 rfl ?_
        refine w_l2i dX7_grow_42 ?_
        refine w_nast dX7_grow_43 h_b k (by omega) (by omega) (by decide) (p % 4294967296) (by omega) (fun H1 eH1 => ?_)
        obtain ⟨F1, eF1⟩ : ∃ zz9, zz9 = zup g k (p % 4294967296) := ⟨_, rfl⟩
        rw [← eF1] at eH1
        have h_b : H1 b = aN 16 F1 := zf_same eH1
        have h_a := (zf_ne eH1 ne_a_b).trans h_a
        have fr := fr.put eH1 (by simp)
        refine v_lload dX7_grow_44 rfl ?_
        refine v_bipush (iI 32) dX7_grow_46 rfl ?_
        refine w_lushr dX7_grow_48 32 4294967296 rfl rfl (by decide) (by omega) ?_
        refine v_lstore (i := 5) (lv' := [(5, .long (jL ((p:Nat) / 4294967296))), (8, .long (jL (p:Nat))), (0, .ref a), (1, .long (jL (x:Nat))), (7, .int (iI i))]) dX7_grow_49 (by decide) rfl ?_
        refine w_iinc (lv' := [(7, .int (iI (i + 1))), (5, .long (jL ((p:Nat) / 4294967296))), (8, .long (jL (p:Nat))), (0, .ref a), (1, .long (jL (x:Nat)))]) dX7_grow_51 rfl (by decide) rfl ?_
        refine v_goto 6 dX7_grow_54 (by decide) ?_
        refine w_sub (lv2 := [(0, .ref a), (1, .long (jL (x:Nat))), (5, .long (jL ((p:Nat) / 4294967296))), (7, .int (iI (i + 1)))]) [3, 4, 1, 0] rfl ?_
        refine ih (k + 1) (p / 4294967296) _ F1 _ (by omega) (by omega) (by omega) (by rw [eF1]; exact wb_up hg (by omega)) (fun j hj => by rw [eF1, zup_ne _ _ (by omega)]; exact hgf j (by omega)) ?_ h_a h_b fr
        rw [eF1, wv_up1, p32]
        show _ = (wv f k + f k * 2 ^ (32 * k)) * x + y
        exact grow_step inv (by rw [ep]; exact Nat.div_add_mod p 4294967296)
  exact loop u 0 y 0 f h (by omega) rfl hy hf (fun _ _ => rfl) (by simp [wv]) h_a h_b fr
