/-! The reference's Nat: 420 words of 30 bits -/
abbrev oNat (b : Nat) (u : Int) : zC := .inr (8, [.ref b, .int (iI u)])
def nv (f : Nat → Nat) : Nat → Nat
  | 0 => 0
  | k + 1 => nv f k + f k * 2 ^ (30 * k)
def nw (f : Nat → Nat) : Prop := ∀ i, f i < 1073741824
theorem nw_up {f : Nat → Nat} {k v : Nat} (h : nw f) (hv : v < 1073741824) : nw (zup f k v) := fun i => by
  unfold zup; split
  · exact hv
  · exact h i
theorem p30 (k : Nat) : 2 ^ (30 * (k + 1)) = 1073741824 * 2 ^ (30 * k) := by rw [show 30 * (k + 1) = 30 + 30 * k from by omega, Nat.pow_add]
theorem nv_lt {f : Nat → Nat} (hf : nw f) : ∀ k, nv f k < 2 ^ (30 * k)
  | 0 => Nat.zero_lt_one
  | k + 1 => by
    have h := nv_lt hf k
    have h1 := hf k
    have h2 : f k * 2 ^ (30 * k) ≤ 1073741823 * 2 ^ (30 * k) := Nat.mul_le_mul_right _ (by omega)
    show nv f k + f k * 2 ^ (30 * k) < _
    rw [p30]; omega
theorem nv_congr {f g : Nat → Nat} : ∀ k, (∀ i, i < k → f i = g i) → nv f k = nv g k
  | 0, _ => rfl
  | k + 1, h => by
    show nv f k + f k * 2 ^ (30 * k) = nv g k + g k * 2 ^ (30 * k)
    rw [nv_congr k (fun i hi => h i (by omega)), h k (by omega)]
theorem nv_up {f : Nat → Nat} {k j x : Nat} (h : k ≤ j) : nv (zup f j x) k = nv f k := nv_congr k (fun i hi => zup_ne f x (by omega))
theorem nv_up1 {f : Nat → Nat} {j x : Nat} : nv (zup f j x) (j + 1) = nv f j + x * 2 ^ (30 * j) := by
  show nv (zup f j x) j + zup f j x j * 2 ^ (30 * j) = _
  rw [nv_up (Nat.le_refl j), zup_same]
theorem nv_split (f : Nat → Nat) (j : Nat) : ∀ m, nv f (j + m) = nv f j + 2 ^ (30 * j) * nv (fun i => f (j + i)) m
  | 0 => by simp [nv]
  | m + 1 => by
    show nv f (j + m) + f (j + m) * 2 ^ (30 * (j + m)) = nv f j + 2 ^ (30 * j) * (nv (fun i => f (j + i)) m + f (j + m) * 2 ^ (30 * m))
    rw [nv_split f j m, Nat.mul_add 30 j m, Nat.pow_add]
    grind
def nat (v j : Nat) : Nat := v / 2 ^ (30 * j) % 1073741824
theorem nat_lt (v j : Nat) : nat v j < 1073741824 := Nat.mod_lt _ (by decide)
theorem nv_div {f : Nat → Nat} (hf : nw f) (j m : Nat) : nv f (j + m) / 2 ^ (30 * j) = nv (fun i => f (j + i)) m := by
  rw [nv_split, Nat.add_mul_div_left _ _ (p_pos _), Nat.div_eq_of_lt (nv_lt hf j), Nat.zero_add]
theorem nv_digit {f : Nat → Nat} (hf : nw f) {j u : Nat} (h : j < u) : nat (nv f u) j = f j := by
  unfold nat
  obtain ⟨m, rfl⟩ : ∃ m, u = j + (1 + m) := ⟨u - j - 1, by omega⟩
  rw [nv_div hf, nv_split _ 1 m]
  show (nv (fun i => f (j + i)) 1 + 1073741824 * _) % 1073741824 = _
  rw [Nat.add_mul_mod_self_left]
  show (0 + (f (j + 0)) * 1) % 1073741824 = _
  rw [Nat.zero_add, Nat.mul_one, Nat.mod_eq_of_lt (hf _)]; rfl
theorem nv_top {f : Nat → Nat} (hf : nw f) {j u : Nat} (h : u ≤ j) : nat (nv f u) j = 0 := by
  unfold nat
  rw [Nat.div_eq_of_lt (Nat.lt_of_lt_of_le (nv_lt hf u) (Nat.pow_le_pow_right (by decide) (by omega)))]
theorem nmod_next (w k : Nat) : w % 2 ^ (30 * (k + 1)) = w % 2 ^ (30 * k) + 2 ^ (30 * k) * nat w k := by
  rw [p30, Nat.mul_comm 1073741824, Nat.mod_mul]; rfl
theorem nat_all (V : Nat) : ∀ k, nv (nat V) k = V % 2 ^ (30 * k)
  | 0 => by rw [Nat.mul_zero, Nat.pow_zero, Nat.mod_one]; rfl
  | k + 1 => by
    show nv (nat V) k + nat V k * 2 ^ (30 * k) = _
    rw [nat_all V k, nmod_next, Nat.mul_comm (nat V k)]
/-- the Nat at a, with its words at b, is v -/
def ND (h : zH) (a b v : Nat) : Prop := ∃ (u : Nat) (f : Nat → Nat), h a = oNat b u ∧ h b = aN 420 f ∧ nw f ∧ u ≤ 420 ∧ nv f u = v ∧ (u = 0 ∨ f (u - 1) ≠ 0)
/-- a Nat stands at a; its words may be anything -/
def NS (h : zH) (a b : Nat) : Prop := ∃ (u : Nat) (f : Nat → Nat), h a = oNat b u ∧ h b = aN 420 f ∧ nw f ∧ u ≤ 420
theorem ND.ns {h : zH} {a b v : Nat} (q : ND h a b v) : NS h a b := by
  obtain ⟨u, f, h1, h2, h3, h4, -⟩ := q
  exact ⟨u, f, h1, h2, h3, h4⟩
theorem ND.fr {h h' : zH} {a b v : Nat} {S : List Nat} (q : ND h a b v) (f : zFr S h h') (ha : a ∉ S) (hb : b ∉ S) : ND h' a b v := by
  obtain ⟨u, g, h1, h2, h3⟩ := q
  exact ⟨u, g, (f a ha).trans h1, (f b hb).trans h2, h3⟩
theorem NS.fr {h h' : zH} {a b : Nat} {S : List Nat} (q : NS h a b) (f : zFr S h h') (ha : a ∉ S) (hb : b ∉ S) : NS h' a b := by
  obtain ⟨u, g, h1, h2, h3⟩ := q
  exact ⟨u, g, (f a ha).trans h1, (f b hb).trans h2, h3⟩
theorem ND.top {f : Nat → Nat} {u : Nat} (h : u = 0 ∨ f (u - 1) ≠ 0) : u = 0 ∨ 2 ^ (30 * (u - 1)) ≤ nv f u := by
  rcases h with h | h
  · exact Or.inl h
  · rcases Nat.eq_zero_or_pos u with q | q
    · exact Or.inl q
    · right
      obtain ⟨m, rfl⟩ : ∃ m, u = m + 1 := ⟨u - 1, by omega⟩
      rw [Nat.add_sub_cancel] at h ⊢
      show _ ≤ nv f m + f m * 2 ^ (30 * m)
      have : 1 * 2 ^ (30 * m) ≤ f m * 2 ^ (30 * m) := Nat.mul_le_mul_right _ (by omega)
      omega
/-- a bound of the value bounds the length -/
theorem ND.len {f : Nat → Nat} {u m : Nat} (h : u = 0 ∨ f (u - 1) ≠ 0) (hv : nv f u < 2 ^ (30 * m)) : u ≤ m := by
  rcases ND.top h with q | q
  · omega
  · rcases Nat.lt_or_ge m u with z | z
    · have : 2 ^ (30 * m) ≤ 2 ^ (30 * (u - 1)) := Nat.pow_le_pow_right (by decide) (by omega)
      omega
    · exact z
set_option maxHeartbeats 4000000 in
set_option maxRecDepth 100000 in
theorem p_nset {d n a b x : Nat} {y : Int} {h : zH} (hw : NS h a b) (hx : x < 18446744073709551616) (hy : y % 18446744073709551616 = x) (hyr : -9223372036854775808 ≤ y ∧ y < 9223372036854775808) :
    zM yX9_set cX9_set 5 none d 0 0 [.ref a, .long (jL y)] h n (fun r h' n' => r = none ∧ n' = n ∧ ND h' a b x ∧ zFr [a, b] h h') := by
  obtain ⟨u0, f, h_a, h_b, hf, hu⟩ := hw
  have ne_b_a := wne h_a h_b
  have ne_a_b := ne_b_a.symm
  refine zM_of zyX9_set rfl (Nat.le_of_ble_eq_true rfl) (fun X hX => ?_)
  have fr : zFr [a, b] h h := zFr.rf
  have loop : ∀ (m k w : Nat) (z : Int) (g : Nat → Nat) (H : zH), k + m = 4 → w < 2 ^ (30 * m) → w < 18446744073709551616 → z % 18446744073709551616 = w → -9223372036854775808 ≤ z → z < 9223372036854775808 → nw g → nv g k + w * 2 ^ (30 * k) = x → (w ≠ 0 ∨ k = 0 ∨ g (k - 1) ≠ 0) → H a = oNat b k → H b = aN 420 g → zFr [a, b] h H → (zV X (fun r h' n' => r = none ∧ n' = n ∧ ND h' a b x ∧ zFr [a, b] h h') cX9_set 5 RX9 none d 0 0 7 [(0, .ref a), (3, .long (jL z))] [] H n 0 0) := by
    intro m
    induction m with
    | zero =>
      intro k w z g H hk hw1 hw2 hz hz1 hz2 hg inv htop h_a h_b fr
      have hw0 : w = 0 := by have : (2 : Nat) ^ (30 * 0) = 1 := rfl; omega
      refine v_lload_n dX9_set_7 rfl ?_
      refine v_lconst (jL 0) dX9_set_8 rfl ?_
      refine w_lcmp_eq 46 dX9_set_9 dX9_set_10 (by decide) (by omega) (by decide) (fun c1 => ?_) (fun c1 => ?_)
      · skip
        exact v_vret dX9_set_46 trivial (Nat.le_of_ble_eq_true rfl) (Nat.le_of_ble_eq_true rfl) ⟨rfl, rfl, ⟨k, g, h_a, h_b, hg, by omega, by rw [hw0, Nat.zero_mul, Nat.add_zero] at inv; exact inv, by omega⟩, fr⟩
      · exact absurd c1 (by omega)
    | succ m ih =>
      intro k w z g H hk hw1 hw2 hz hz1 hz2 hg inv htop h_a h_b fr
      refine v_lload_n dX9_set_7 rfl ?_
      refine v_lconst (jL 0) dX9_set_8 rfl ?_
      refine w_lcmp_eq 46 dX9_set_9 dX9_set_10 (by decide) (by omega) (by decide) (fun c1 => ?_) (fun c1 => ?_)
      · have hw0 : w = 0 := by omega
        exact v_vret dX9_set_46 trivial (Nat.le_of_ble_eq_true rfl) (Nat.le_of_ble_eq_true rfl) ⟨rfl, rfl, ⟨k, g, h_a, h_b, hg, by omega, by rw [hw0, Nat.zero_mul, Nat.add_zero] at inv; exact inv, by omega⟩, fr⟩
      · have hw0 : w ≠ 0 := fun e => c1 (by omega)
        refine v_aload_n dX9_set_13 rfl ?_
        refine v_get fX9_9 dX9_set_14 h_a (by decide) rfl ?_
        refine v_aload_n dX9_set_17 rfl ?_
        refine v_get fX9_15 dX9_set_18 h_a (by decide) rfl ?_
        refine v_lload_n dX9_set_21 rfl ?_
        refine v_ldc2_w (v := jL 1073741823) kX9_19 dX9_set_22 ?_
        refine w_landm dX9_set_25 30 1073741824 rfl (by decide) rfl ?_
        refine w_l2i dX9_set_26 ?_
        refine w_nast dX9_set_27 h_b k (by omega) (by omega) (by decide) (w % 1073741824) (by omega) (fun H1 eH1 => ?_)
        obtain ⟨F1, eF1⟩ : ∃ zz9, zz9 = zup g k (w % 1073741824) := ⟨_, rfl⟩
        rw [← eF1] at eH1
        have h_b : H1 b = aN 420 F1 := zf_same eH1
        have h_a := (zf_ne eH1 ne_a_b).trans h_a
        have fr := fr.put eH1 (by simp)
        refine v_aload_n dX9_set_28 rfl ?_
        refine v_dup dX9_set_29 rfl ?_
        refine v_get fX9_15 dX9_set_30 h_a (by decide) rfl ?_
        refine v_iconst (iI 1) dX9_set_33 rfl ?_
        refine w_iadd dX9_set_34 ?_
        refine w_ei (k + 1:Nat) (by omega) ?_
        refine v_put (fs' := [.ref b, .int (iI (k + 1:Nat))]) fX9_15 dX9_set_35 h_a (by decide) (Nat.le_of_ble_eq_true rfl) rfl rfl rfl (fun H2 eH2 => ?_)
        have h_a : H2 a = oNat b (k + 1:Nat) := zf_same eH2
        have h_b := (zf_ne eH2 ne_b_a).trans h_b
        have fr := fr.put eH2 (by simp)
        refine v_lload_n dX9_set_38 rfl ?_
        refine w_topl (w:Nat) (by omega) ?_
        refine v_bipush (iI 30) dX9_set_39 rfl ?_
        refine w_lushr dX9_set_41 30 1073741824 rfl rfl (by decide) (by omega) ?_
        refine v_lstore_n (i := 3) (lv' := [(3, .long (jL ((w:Nat) / 1073741824))), (0, .ref a)]) dX9_set_42 rfl (by decide) rfl ?_
        refine v_goto 7 dX9_set_43 (by decide) ?_
        refine w_sub (lv2 := [(0, .ref a), (3, .long (jL ((w:Nat) / 1073741824)))]) [1, 0] rfl ?_
        refine ih (k + 1) (w / 1073741824) _ F1 _ (by omega) ?_ (by omega) (by omega) (by omega) (by omega) (by rw [eF1]; exact nw_up hg (by omega)) ?_ ?_ h_a h_b fr
        · rw [p30] at hw1
          exact Nat.div_lt_of_lt_mul hw1
        · rw [eF1, nv_up1, p30, ← inv, ← Nat.mul_assoc]
          have := congrArg (· * 2 ^ (30 * k)) (Nat.div_add_mod w 1073741824)
          simp only [Nat.add_mul] at this
          rw [Nat.mul_comm (w / 1073741824) 1073741824]
          omega
        · rw [Nat.add_sub_cancel, eF1, zup_same]
          omega
  refine v_aload_n dX9_set_0 rfl ?_
  refine v_iconst (iI 0) dX9_set_1 rfl ?_
  refine v_put (fs' := [.ref b, .int (iI 0)]) fX9_15 dX9_set_2 h_a (by decide) (Nat.le_of_ble_eq_true rfl) rfl rfl rfl (fun H1 eH1 => ?_)
  have h_a : H1 a = oNat b 0 := zf_same eH1
  have h_b := (zf_ne eH1 ne_b_a).trans h_b
  have fr := fr.put eH1 (by simp)
  refine v_lload_n dX9_set_5 rfl ?_
  refine v_lstore_n (i := 3) (lv' := [(3, .long (jL y)), (0, .ref a), (1, .long (jL y))]) dX9_set_6 rfl (by decide) rfl ?_
  refine w_sub (lv2 := [(0, .ref a), (3, .long (jL y))]) [1, 0] rfl ?_
  exact loop 4 0 x y f _ rfl (by rw [show (2 : Nat) ^ (30 * 4) = 1329227995784915872903807060280344576 from rfl]; omega) hx hy hyr.1 hyr.2 hf (by simp [nv]) (by omega) h_a h_b fr
set_option maxHeartbeats 4000000 in
set_option maxRecDepth 100000 in
theorem p_ncopy {d n a b c e w : Nat} {h : zH} (hw : NS h a b) (hw2 : ND h c e w) (hne : c ≠ a ∧ c ≠ b ∧ e ≠ a ∧ e ≠ b) :
    zM yX9_copy cX9_copy 3 none d 0 0 [.ref a, .ref c] h n (fun r h' n' => r = none ∧ n' = n ∧ ND h' a b w ∧ zFr [a, b] h h') := by
  obtain ⟨u0, f, h_a, h_b, hf, hu⟩ := hw
  obtain ⟨u, g, h_c, h_e, hg, hu2, hv2, ht2⟩ := hw2
  have ne_b_a := wne h_a h_b
  have ne_a_b := ne_b_a.symm
  have ne_c_a := hne.1
  have ne_c_b := hne.2.1
  have ne_e_a := hne.2.2.1
  have ne_e_b := hne.2.2.2
  refine zM_of zyX9_copy rfl (Nat.le_of_ble_eq_true rfl) (fun X hX => ?_)
  have fr : zFr [a, b] h h := zFr.rf
  refine v_aload_n dX9_copy_0 rfl ?_
  refine v_aload_n dX9_copy_1 rfl ?_
  refine v_get fX9_15 dX9_copy_2 h_c (by decide) rfl ?_
  refine v_put (fs' := [.ref b, .int (iI (u:Nat))]) fX9_15 dX9_copy_5 h_a (by decide) (Nat.le_of_ble_eq_true rfl) rfl rfl rfl (fun H1 eH1 => ?_)
  have h_a : H1 a = oNat b (u:Nat) := zf_same eH1
  have h_b := (zf_ne eH1 ne_b_a).trans h_b
  have h_c := (zf_ne eH1 ne_c_a).trans h_c
  have h_e := (zf_ne eH1 ne_e_a).trans h_e
  have fr := fr.put eH1 (by simp)
  refine v_iconst (iI 0) dX9_copy_8 rfl ?_
  refine v_istore_n (i := 2) (lv' := [(2, .int (iI 0)), (0, .ref a), (1, .ref c)]) dX9_copy_9 rfl (by decide) rfl ?_
  refine w_sub (lv2 := [(0, .ref a), (1, .ref c), (2, .int (iI 0))]) [1, 2, 0] rfl ?_
  have loop : ∀ (m k : Nat) (y : Int) (f2 : Nat → Nat) (H : zH), k + m = u → y = k → nw f2 → (∀ i, i < k → f2 i = g i) → H a = oNat b u → H b = aN 420 f2 → H c = oNat e u → H e = aN 420 g → zFr [a, b] h H → (zV X (fun r h' n' => r = none ∧ n' = n ∧ ND h' a b w ∧ zFr [a, b] h h') cX9_copy 3 RX9 none d 0 0 10 [(0, .ref a), (1, .ref c), (2, .int (iI y))] [] H n 0 0) := by
    intro m
    induction m with
    | zero =>
      intro k y f2 H hk ey hf2 hs h_a h_b h_c h_e fr
      refine v_iload_n dX9_copy_10 rfl ?_
      refine v_aload_n dX9_copy_11 rfl ?_
      refine v_get fX9_15 dX9_copy_12 h_a (by decide) rfl ?_
      refine w_icmp_ge 36 dX9_copy_15 (by decide) (by omega) (by omega) (fun c1 => ?_) (fun c1 => ?_)
      · skip
        exact v_vret dX9_copy_36 trivial (Nat.le_of_ble_eq_true rfl) (Nat.le_of_ble_eq_true rfl) ⟨rfl, rfl, ⟨u, f2, h_a, h_b, hf2, hu2, by rw [← hv2]; exact nv_congr u (fun i hi => hs i (by omega)), by
          rcases Nat.eq_zero_or_pos u with z | z
          · exact Or.inl z
          · rw [hs (u - 1) (by omega)]; exact ht2⟩, fr⟩
      · exact absurd c1 (by omega)
    | succ m ih =>
      intro k y f2 H hk ey hf2 hs h_a h_b h_c h_e fr
      refine v_iload_n dX9_copy_10 rfl ?_
      refine v_aload_n dX9_copy_11 rfl ?_
      refine v_get fX9_15 dX9_copy_12 h_a (by decide) rfl ?_
      refine w_icmp_ge 36 dX9_copy_15 (by decide) (by omega) (by omega) (fun c1 => ?_) (fun c1 => ?_)
      · exact absurd c1 (by omega)
      · skip
        refine v_aload_n dX9_copy_18 rfl ?_
        refine v_get fX9_9 dX9_copy_19 h_a (by decide) rfl ?_
        refine v_iload_n dX9_copy_22 rfl ?_
        refine v_aload_n dX9_copy_23 rfl ?_
        refine v_get fX9_9 dX9_copy_24 h_c (by decide) rfl ?_
        refine v_iload_n dX9_copy_27 rfl ?_
        refine w_nald dX9_copy_28 h_e k (by omega) (by omega) (by decide) ?_
        refine w_nast dX9_copy_29 h_b k (by omega) (by omega) (by decide) (g k) rfl (fun H1 eH1 => ?_)
        obtain ⟨F1, eF1⟩ : ∃ zz9, zz9 = zup f2 k (g k) := ⟨_, rfl⟩
        rw [← eF1] at eH1
        have h_b : H1 b = aN 420 F1 := zf_same eH1
        have h_a := (zf_ne eH1 ne_a_b).trans h_a
        have h_c := (zf_ne eH1 ne_c_b).trans h_c
        have h_e := (zf_ne eH1 ne_e_b).trans h_e
        have fr := fr.put eH1 (by simp)
        refine w_iinc (lv' := [(2, .int (iI (y + 1))), (0, .ref a), (1, .ref c)]) dX9_copy_30 rfl (by decide) rfl ?_
        refine v_goto 10 dX9_copy_33 (by decide) ?_
        refine w_sub (lv2 := [(0, .ref a), (1, .ref c), (2, .int (iI (y + 1)))]) [1, 2, 0] rfl ?_
        refine ih (k + 1) (y + 1) F1 _ (by omega) (by omega) (by rw [eF1]; exact nw_up hf2 (hg k)) (fun i hi => ?_) h_a h_b h_c h_e fr
        rw [eF1]
        by_cases z : i = k
        · rw [z, zup_same]
        · rw [zup_ne _ _ z]; exact hs i (by omega)
  exact loop u 0 0 f _ (by omega) rfl hf (fun i hi => absurd hi (by omega)) h_a h_b h_c h_e fr
set_option maxHeartbeats 4000000 in
set_option maxRecDepth 100000 in
theorem p_nbits {d n a b v : Nat} {h : zH} (hw : ND h a b v) (hd : 1 ≤ d) :
    zM yX9_bits cX9_bits 1 (some .int) d 0 0 [.ref a] h n (fun r h' n' => r = some (.int (iI (nb v : Nat))) ∧ n' = n ∧ h' = h) := by
  obtain ⟨u, f, h_a, h_b, hf, hu, hv, ht⟩ := hw
  refine zM_of zyX9_bits rfl (Nat.le_of_ble_eq_true rfl) (fun X hX => ?_)
  refine v_aload_n dX9_bits_0 rfl ?_
  refine v_get fX9_15 dX9_bits_1 h_a (by decide) rfl ?_
  refine w_if_ne 11 dX9_bits_4 (by decide) (by omega) (fun c => ?_) (fun c => ?_)
  · obtain ⟨m, em⟩ : ∃ m, u = m + 1 := ⟨u - 1, by omega⟩
    have hfm := hf m
    rw [em, Nat.add_sub_cancel] at ht
    rw [em] at hv
    refine v_bipush (iI 30) dX9_bits_11 rfl ?_
    refine v_aload_n dX9_bits_13 rfl ?_
    refine v_get fX9_15 dX9_bits_14 h_a (by decide) rfl ?_
    refine w_imul dX9_bits_17 ?_
    refine v_aload_n dX9_bits_18 rfl ?_
    refine v_get fX9_9 dX9_bits_19 h_a (by decide) rfl ?_
    refine v_aload_n dX9_bits_22 rfl ?_
    refine v_get fX9_15 dX9_bits_23 h_a (by decide) rfl ?_
    refine v_iconst (iI 1) dX9_bits_26 rfl ?_
    refine w_isub dX9_bits_27 ?_
    refine w_nald dX9_bits_28 h_b m (by omega) (by omega) (by decide) ?_
    refine v_cS (av := [.int (iI (f m : Nat))]) (st := [.int (iI (30 * (u:Nat)))]) zyJ6_numberOfLeadingZeros_0f7a4 lX9_21 (p_nlz (d := 0) (x := f m) (by omega) (by omega)) dX9_bits_29 rfl rfl (Nat.le_of_ble_eq_true rfl) (by omega) (Nat.le_of_ble_eq_true rfl) (Nat.le_of_ble_eq_true rfl) (Or.inl (fun _ _ _ q => ZN q)) (fun r9 K1 n9 q9 => ?_)
    obtain ⟨rfl, q9n, q9h⟩ := q9
    have q9n := q9n.symm
    subst q9n
    have q9h := q9h.symm
    subst q9h
    have h0 : f m ≠ 0 := by exact ht.resolve_left (by omega)
    have e : nb v = nb (f m) + 30 * m := by
      rw [← hv, show nv f (m + 1) = f m * 2 ^ (30 * m) + nv f m from Nat.add_comm _ _]
      exact nb_up h0 (nv_lt hf m)
    have e2 : nb (f m) ≤ 30 := nb_le (k := 30) hfm
    refine v_iconst (iI 2) dX9_bits_32 rfl ?_
    refine w_isub dX9_bits_33 ?_
    refine w_isub dX9_bits_34 ?_
    exact v_iret dX9_bits_35 trivial (Nat.le_of_ble_eq_true rfl) (Nat.le_of_ble_eq_true rfl) ⟨by rw [e, show ((nb (f m) + 30 * m : Nat) : Int) = 30 * ((u : Nat) : Int) - (((32 - nb (f m) : Nat) : Int) - 2) from by omega], rfl, rfl⟩
  · skip
    refine v_iconst (iI 0) dX9_bits_7 rfl ?_
    refine v_goto 35 dX9_bits_8 (by decide) ?_
    exact v_iret dX9_bits_35 trivial (Nat.le_of_ble_eq_true rfl) (Nat.le_of_ble_eq_true rfl) ⟨by rw [← hv, show u = 0 from by omega]; rfl, rfl, rfl⟩
theorem nv_less {f g : Nat → Nat} (hf : nw f) {k u : Nat} (hk : k < u) (hs : ∀ j, k < j → j < u → f j = g j) (hl : f k < g k) : nv f u < nv g u := by
  obtain ⟨m, rfl⟩ : ∃ m, u = (k + 1) + m := ⟨u - k - 1, by omega⟩
  rw [nv_split f, nv_split g, nv_congr (f := fun i => f (k + 1 + i)) (g := fun i => g (k + 1 + i)) m (fun i hi => hs _ (by omega) (by omega))]
  have h1 := nv_lt hf k
  have h2 : (f k + 1) * 2 ^ (30 * k) ≤ g k * 2 ^ (30 * k) := Nat.mul_le_mul_right _ hl
  rw [Nat.add_mul, Nat.one_mul] at h2
  show nv f k + f k * 2 ^ (30 * k) + _ < nv g k + g k * 2 ^ (30 * k) + _
  omega
theorem nd_less {f g : Nat → Nat} (hf : nw f) {u w : Nat} (h : u < w) (ht : w = 0 ∨ g (w - 1) ≠ 0) : nv f u < nv g w := by
  rcases ND.top ht with q | q
  · omega
  · have := nv_lt hf u
    have h2 : 2 ^ (30 * u) ≤ 2 ^ (30 * (w - 1)) := Nat.pow_le_pow_right (by decide) (by omega)
    omega
set_option maxHeartbeats 4000000 in
set_option maxRecDepth 100000 in
theorem p_ncompare {d n a b c e v w : Nat} {h : zH} (hw : ND h a b v) (hw2 : ND h c e w) :
    zM yX9_compare cX9_compare 3 (some .int) d 0 0 [.ref a, .ref c] h n (fun r h' n' => r = some (.int (iI (cmpz v w))) ∧ n' = n ∧ h' = h) := by
  obtain ⟨u, f, h_a, h_b, hf, hu, hv, ht⟩ := hw
  obtain ⟨u2, g, h_c, h_e, hg, hu2, hv2, ht2⟩ := hw2
  refine zM_of zyX9_compare rfl (Nat.le_of_ble_eq_true rfl) (fun X hX => ?_)
  refine v_aload_n dX9_compare_0 rfl ?_
  refine v_get fX9_15 dX9_compare_1 h_a (by decide) rfl ?_
  refine v_aload_n dX9_compare_4 rfl ?_
  refine v_get fX9_15 dX9_compare_5 h_c (by decide) rfl ?_
  refine w_icmp_eq 28 dX9_compare_8 (by decide) (by omega) (by omega) (fun c1 => ?_) (fun c1 => ?_)
  · have hu3 : u = u2 := by omega
    subst hu3
    refine v_aload_n dX9_compare_28 rfl ?_
    refine v_get fX9_15 dX9_compare_29 h_a (by decide) rfl ?_
    refine v_iconst (iI 1) dX9_compare_32 rfl ?_
    refine w_isub dX9_compare_33 ?_
    refine v_istore_n (i := 2) (lv' := [(2, .int (iI ((u:Nat) - 1))), (0, .ref a), (1, .ref c)]) dX9_compare_34 rfl (by decide) rfl ?_
    refine w_sub (lv2 := [(0, .ref a), (1, .ref c), (2, .int (iI ((u:Nat) - 1)))]) [1, 2, 0] rfl ?_
    have loop : ∀ (k : Nat) (i : Int), k ≤ u → i = (k : Int) - 1 → (∀ j, k ≤ j → j < u → f j = g j) → (zV X (fun r h' n' => r = some (.int (iI (cmpz v w))) ∧ n' = n ∧ h' = h) cX9_compare 3 RX9 (some .int) d 0 0 35 [(0, .ref a), (1, .ref c), (2, .int (iI i))] [] h n 0 0) := by
      intro k
      induction k with
      | zero =>
        intro i hk ei hs
        refine v_iload_n dX9_compare_35 rfl ?_
        refine w_if_lt 81 dX9_compare_36 (by decide) (by omega) (fun c2 => ?_) (fun c2 => ?_)
        · skip
          refine v_iconst (iI 0) dX9_compare_81 rfl ?_
          exact v_iret dX9_compare_82 trivial (Nat.le_of_ble_eq_true rfl) (Nat.le_of_ble_eq_true rfl) ⟨by rw [show v = w from by rw [← hv, ← hv2]; exact nv_congr u (fun j hj => hs j (by omega) hj)]; unfold cmpz; rw [if_neg (Nat.lt_irrefl w), if_pos rfl], rfl, rfl⟩
        · exact absurd c2 (by omega)
      | succ k ih =>
        intro i hk ei hs
        refine v_iload_n dX9_compare_35 rfl ?_
        refine w_if_lt 81 dX9_compare_36 (by decide) (by omega) (fun c2 => ?_) (fun c2 => ?_)
        · exact absurd c2 (by omega)
        · have hfk := hf k
          have hgk := hg k
          refine v_aload_n dX9_compare_39 rfl ?_
          refine v_get fX9_9 dX9_compare_40 h_a (by decide) rfl ?_
          refine v_iload_n dX9_compare_43 rfl ?_
          refine w_nald dX9_compare_44 h_b k (by omega) (by omega) (by decide) ?_
          refine v_aload_n dX9_compare_45 rfl ?_
          refine v_get fX9_9 dX9_compare_46 h_c (by decide) rfl ?_
          refine v_iload_n dX9_compare_49 rfl ?_
          refine w_nald dX9_compare_50 h_e k (by omega) (by omega) (by decide) ?_
          refine w_icmp_eq 75 dX9_compare_51 (by decide) (by omega) (by omega) (fun c3 => ?_) (fun c3 => ?_)
          · skip
            refine w_iinc (lv' := [(2, .int (iI (i + (-1)))), (0, .ref a), (1, .ref c)]) dX9_compare_75 rfl (by decide) rfl ?_
            refine v_goto 35 dX9_compare_78 (by decide) ?_
            refine w_sub (lv2 := [(0, .ref a), (1, .ref c), (2, .int (iI (i + (-1))))]) [1, 2, 0] rfl ?_
            exact ih (i + -1) (by omega) (by omega) (fun j h1 h2 => by
              rcases Nat.eq_or_lt_of_le h1 with q | q
              · rw [← q]; omega
              · exact hs j (by omega) h2)
          · skip
            refine v_aload_n dX9_compare_54 rfl ?_
            refine v_get fX9_9 dX9_compare_55 h_a (by decide) rfl ?_
            refine v_iload_n dX9_compare_58 rfl ?_
            refine w_nald dX9_compare_59 h_b k (by omega) (by omega) (by decide) ?_
            refine v_aload_n dX9_compare_60 rfl ?_
            refine v_get fX9_9 dX9_compare_61 h_c (by decide) rfl ?_
            refine v_iload_n dX9_compare_64 rfl ?_
            refine w_nald dX9_compare_65 h_e k (by omega) (by omega) (by decide) ?_
            refine w_icmp_ge 73 dX9_compare_66 (by decide) (by omega) (by omega) (fun c4 => ?_) (fun c4 => ?_)
            · have := nv_less hg (show k < u by omega) (fun j h1 h2 => (hs j (by omega) h2).symm) (show g k < f k by omega)
              refine v_iconst (iI 1) dX9_compare_73 rfl ?_
              exact v_iret dX9_compare_74 trivial (Nat.le_of_ble_eq_true rfl) (Nat.le_of_ble_eq_true rfl) ⟨by unfold cmpz; rw [if_neg (by omega), if_neg (by omega)], rfl, rfl⟩
            · have := nv_less hf (show k < u by omega) (fun j h1 h2 => (hs j (by omega) h2)) (show f k < g k by omega)
              refine v_iconst (iI (-1)) dX9_compare_69 rfl ?_
              refine v_goto 74 dX9_compare_70 (by decide) ?_
              exact v_iret dX9_compare_74 trivial (Nat.le_of_ble_eq_true rfl) (Nat.le_of_ble_eq_true rfl) ⟨by unfold cmpz; rw [if_pos (by omega)], rfl, rfl⟩
    exact loop u _ (Nat.le_refl u) rfl (fun j h1 h2 => by omega)
  · skip
    refine v_aload_n dX9_compare_11 rfl ?_
    refine v_get fX9_15 dX9_compare_12 h_a (by decide) rfl ?_
    refine v_aload_n dX9_compare_15 rfl ?_
    refine v_get fX9_15 dX9_compare_16 h_c (by decide) rfl ?_
    refine w_icmp_ge 26 dX9_compare_19 (by decide) (by omega) (by omega) (fun c2 => ?_) (fun c2 => ?_)
    · have := nd_less hg (show u2 < u by omega) ht
      refine v_iconst (iI 1) dX9_compare_26 rfl ?_
      exact v_iret dX9_compare_27 trivial (Nat.le_of_ble_eq_true rfl) (Nat.le_of_ble_eq_true rfl) ⟨by unfold cmpz; rw [if_neg (by omega), if_neg (by omega)], rfl, rfl⟩
    · have := nd_less hf (show u < u2 by omega) ht2
      refine v_iconst (iI (-1)) dX9_compare_22 rfl ?_
      refine v_goto 27 dX9_compare_23 (by decide) ?_
      exact v_iret dX9_compare_27 trivial (Nat.le_of_ble_eq_true rfl) (Nat.le_of_ble_eq_true rfl) ⟨by unfold cmpz; rw [if_pos (by omega)], rfl, rfl⟩
set_option maxHeartbeats 4000000 in
set_option maxRecDepth 100000 in
theorem p_ntrim {d n a b u u0 : Nat} {f : Nat → Nat} {h : zH} (h_a : h a = oNat b u0) (h_b : h b = aN 420 f) (hf : nw f) (hu : u ≤ 420) :
    zM yX9_trim cX9_trim 2 none d 0 0 [.ref a, .int (iI (u:Nat))] h n (fun r h' n' => r = none ∧ n' = n ∧ ND h' a b (nv f u) ∧ zFr [a] h h') := by
  have ne_b_a := wne h_a h_b
  refine zM_of zyX9_trim rfl (Nat.le_of_ble_eq_true rfl) (fun X hX => ?_)
  have fr : zFr [a] h h := zFr.rf
  refine v_aload_n dX9_trim_0 rfl ?_
  refine v_iload_n dX9_trim_1 rfl ?_
  refine v_put (fs' := [.ref b, .int (iI (u:Nat))]) fX9_15 dX9_trim_2 h_a (by decide) (Nat.le_of_ble_eq_true rfl) rfl rfl rfl (fun H1 eH1 => ?_)
  have h_a : H1 a = oNat b (u:Nat) := zf_same eH1
  have h_b := (zf_ne eH1 ne_b_a).trans h_b
  have fr := fr.put eH1 (by simp)
  refine w_sub (lv2 := [(0, .ref a)]) [0] rfl ?_
  have loop : ∀ (k : Nat) (H : zH), k ≤ u → H a = oNat b k → H b = aN 420 f → nv f k = nv f u → zFr [a] h H → (zV X (fun r h' n' => r = none ∧ n' = n ∧ ND h' a b (nv f u) ∧ zFr [a] h h') cX9_trim 2 RX9 none d 0 0 5 [(0, .ref a)] [] H n 0 0) := by
    intro k
    induction k with
    | zero =>
      intro H hk h_a h_b hv fr
      refine v_aload_n dX9_trim_5 rfl ?_
      refine v_get fX9_15 dX9_trim_6 h_a (by decide) rfl ?_
      refine w_if_le 39 dX9_trim_9 (by decide) (by decide) (fun c1 => ?_) (fun c1 => ?_)
      · skip
        exact v_vret dX9_trim_39 trivial (Nat.le_of_ble_eq_true rfl) (Nat.le_of_ble_eq_true rfl) ⟨rfl, rfl, ⟨0, f, h_a, h_b, hf, by decide, hv, Or.inl rfl⟩, fr⟩
      · exact absurd c1 (by omega)
    | succ k ih =>
      intro H hk h_a h_b hv fr
      have := hf k
      refine v_aload_n dX9_trim_5 rfl ?_
      refine v_get fX9_15 dX9_trim_6 h_a (by decide) rfl ?_
      refine w_if_le 39 dX9_trim_9 (by decide) (by omega) (fun c1 => ?_) (fun c1 => ?_)
      · exact absurd c1 (by omega)
      · skip
        refine v_aload_n dX9_trim_12 rfl ?_
        refine v_get fX9_9 dX9_trim_13 h_a (by decide) rfl ?_
        refine v_aload_n dX9_trim_16 rfl ?_
        refine v_get fX9_15 dX9_trim_17 h_a (by decide) rfl ?_
        refine v_iconst (iI 1) dX9_trim_20 rfl ?_
        refine w_isub dX9_trim_21 ?_
        refine w_nald dX9_trim_22 h_b k (by omega) (by omega) (by decide) ?_
        refine w_if_ne 39 dX9_trim_23 (by decide) (by omega) (fun c2 => ?_) (fun c2 => ?_)
        · skip
          exact v_vret dX9_trim_39 trivial (Nat.le_of_ble_eq_true rfl) (Nat.le_of_ble_eq_true rfl) ⟨rfl, rfl, ⟨k + 1, f, h_a, h_b, hf, by omega, hv, Or.inr (fun e => c2 (by have e : f k = 0 := e; omega))⟩, fr⟩
        · have e0 : f k = 0 := by omega
          refine v_aload_n dX9_trim_26 rfl ?_
          refine v_dup dX9_trim_27 rfl ?_
          refine v_get fX9_15 dX9_trim_28 h_a (by decide) rfl ?_
          refine v_iconst (iI 1) dX9_trim_31 rfl ?_
          refine w_isub dX9_trim_32 ?_
          refine w_ei (k:Nat) (by omega) ?_
          refine v_put (fs' := [.ref b, .int (iI (k:Nat))]) fX9_15 dX9_trim_33 h_a (by decide) (Nat.le_of_ble_eq_true rfl) rfl rfl rfl (fun H1 eH1 => ?_)
          have h_a : H1 a = oNat b (k:Nat) := zf_same eH1
          have h_b := (zf_ne eH1 ne_b_a).trans h_b
          have fr := fr.put eH1 (by simp)
          refine v_goto 5 dX9_trim_36 (by decide) ?_
          refine w_sub (lv2 := [(0, .ref a)]) [0] rfl ?_
          exact ih _ (by omega) h_a h_b (by rw [← hv]; show nv f k = nv f k + f k * 2 ^ (30 * k); rw [e0]; omega) fr
  exact loop u _ (Nat.le_refl _) h_a h_b rfl fr
