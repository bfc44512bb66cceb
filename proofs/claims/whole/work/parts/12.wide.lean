/-! Wide numbers of the class: their values, and what its methods do to them. -/
abbrev oWide (b : Nat) (u : Int) : zC := .inr (6, [.ref b, .int (iI u)])
/-- the value of the first k words -/
def wv (f : Nat → Nat) : Nat → Nat
  | 0 => 0
  | k + 1 => wv f k + f k * 2 ^ (32 * k)
def wb (f : Nat → Nat) : Prop := ∀ i, f i < 4294967296
theorem wb_up {f : Nat → Nat} {k v : Nat} (h : wb f) (hv : v < 4294967296) : wb (zup f k v) := fun i => by
  unfold zup; split
  · exact hv
  · exact h i
theorem p_pos (k : Nat) : 0 < 2 ^ k := Nat.pow_pos (by decide)
theorem p32 (k : Nat) : 2 ^ (32 * (k + 1)) = 4294967296 * 2 ^ (32 * k) := by rw [show 32 * (k + 1) = 32 + 32 * k from by omega, Nat.pow_add]
theorem wv_lt {f : Nat → Nat} (hf : wb f) : ∀ k, wv f k < 2 ^ (32 * k)
  | 0 => Nat.zero_lt_one
  | k + 1 => by
    have h := wv_lt hf k
    have h1 := hf k
    have h2 : f k * 2 ^ (32 * k) ≤ 4294967295 * 2 ^ (32 * k) := Nat.mul_le_mul_right _ (by omega)
    show wv f k + f k * 2 ^ (32 * k) < _
    rw [p32]; omega
theorem wv_congr {f g : Nat → Nat} : ∀ k, (∀ i, i < k → f i = g i) → wv f k = wv g k
  | 0, _ => rfl
  | k + 1, h => by
    show wv f k + f k * 2 ^ (32 * k) = wv g k + g k * 2 ^ (32 * k)
    rw [wv_congr k (fun i hi => h i (by omega)), h k (by omega)]
theorem wv_up {f : Nat → Nat} {k j x : Nat} (h : k ≤ j) : wv (zup f j x) k = wv f k := wv_congr k (fun i hi => zup_ne f x (by omega))
theorem wv_up1 {f : Nat → Nat} {j x : Nat} : wv (zup f j x) (j + 1) = wv f j + x * 2 ^ (32 * j) := by
  show wv (zup f j x) j + zup f j x j * 2 ^ (32 * j) = _
  rw [wv_up (Nat.le_refl j), zup_same]
theorem wv_split (f : Nat → Nat) (j : Nat) : ∀ m, wv f (j + m) = wv f j + 2 ^ (32 * j) * wv (fun i => f (j + i)) m
  | 0 => by simp [wv]
  | m + 1 => by
    show wv f (j + m) + f (j + m) * 2 ^ (32 * (j + m)) = wv f j + 2 ^ (32 * j) * (wv (fun i => f (j + i)) m + f (j + m) * 2 ^ (32 * m))
    rw [wv_split f j m, Nat.mul_add 32 j m, Nat.pow_add]
    grind
theorem wv_div {f : Nat → Nat} (hf : wb f) (j m : Nat) : wv f (j + m) / 2 ^ (32 * j) = wv (fun i => f (j + i)) m := by
  rw [wv_split, Nat.add_mul_div_left _ _ (p_pos _), Nat.div_eq_of_lt (wv_lt hf j), Nat.zero_add]
theorem wv_mod {f : Nat → Nat} (hf : wb f) (j m : Nat) : wv f (j + m) % 2 ^ (32 * j) = wv f j := by
  rw [wv_split, Nat.add_mul_mod_self_left, Nat.mod_eq_of_lt (wv_lt hf j)]
/-- the word at place j of a value -/
def wat (v j : Nat) : Nat := v / 2 ^ (32 * j) % 4294967296
theorem wat_lt (v j : Nat) : wat v j < 4294967296 := Nat.mod_lt _ (by decide)
theorem wv_digit {f : Nat → Nat} (hf : wb f) {j u : Nat} (h : j < u) : wat (wv f u) j = f j := by
  unfold wat
  obtain ⟨m, rfl⟩ : ∃ m, u = j + (1 + m) := ⟨u - j - 1, by omega⟩
  rw [wv_div hf, wv_split _ 1 m]
  show (wv (fun i => f (j + i)) 1 + 4294967296 * _) % 4294967296 = _
  rw [Nat.add_mul_mod_self_left]
  show (0 + (f (j + 0)) * 1) % 4294967296 = _
  rw [Nat.zero_add, Nat.mul_one, Nat.mod_eq_of_lt (hf _)]; rfl
theorem wv_top {f : Nat → Nat} (hf : wb f) {j u : Nat} (h : u ≤ j) : wat (wv f u) j = 0 := by
  unfold wat
  rw [Nat.div_eq_of_lt (Nat.lt_of_lt_of_le (wv_lt hf u) (Nat.pow_le_pow_right (by decide) (by omega)))]
/-- the Wide at a, with its words at b, is v -/
def WD (h : zH) (a b v : Nat) : Prop := ∃ (u : Nat) (f : Nat → Nat), h a = oWide b u ∧ h b = aN 16 f ∧ wb f ∧ u ≤ 16 ∧ wv f u = v ∧ (u = 0 ∨ f (u - 1) ≠ 0)
theorem WD.lt {h : zH} {a b v : Nat} (q : WD h a b v) : v < 2 ^ 512 := by
  obtain ⟨u, f, h1, h2, hf, h3, h4, -⟩ := q
  rw [← h4]
  exact Nat.lt_of_lt_of_le (wv_lt hf u) (Nat.pow_le_pow_right (by decide) (by omega))
theorem WD.fr {h h' : zH} {a b v : Nat} {S : List Nat} (q : WD h a b v) (f : zFr S h h') (ha : a ∉ S) (hb : b ∉ S) : WD h' a b v := by
  obtain ⟨u, g, h1, h2, h3⟩ := q
  exact ⟨u, g, (f a ha).trans h1, (f b hb).trans h2, h3⟩
theorem wne {h : zH} {a b : Nat} {o : Nat × List Value} {x : FieldType × vp_A} (h1 : h a = .inr o) (h2 : h b = .inl x) : b ≠ a := fun e => by rw [e, h1] at h2; cases h2
theorem ZN {n n' : Nat} {A : Prop} {r r' : Option Value} (q : r = r' ∧ n' = n ∧ A) : n' = n := q.2.1
set_option maxHeartbeats 4000000 in
set_option maxRecDepth 100000 in
theorem p_trim {d n a b u0 : Nat} {h : zH} {f : Nat → Nat} (h_a : h a = oWide b u0) (h_b : h b = aN 16 f) (hf : wb f) (hu : u0 ≤ 16) :
    zM yX7_trim cX7_trim 2 none d 0 0 [.ref a] h n (fun r h' n' => r = none ∧ n' = n ∧ WD h' a b (wv f u0) ∧ zFr [a] h h') := by
  have ne_b_a := wne h_a h_b
  refine zM_of zyX7_trim rfl (Nat.le_of_ble_eq_true rfl) (fun X hX => ?_)
  have fr : zFr [a] h h := zFr.rf
  refine v_aload_n dX7_trim_0 rfl ?_
  refine v_get fX7_13 dX7_trim_1 h_a (by decide) rfl ?_
  refine v_iconst (iI 1) dX7_trim_4 rfl ?_
  refine w_isub dX7_trim_5 ?_
  refine v_istore_n (i := 1) (lv' := [(1, .int (iI (u0 - 1))), (0, .ref a)]) dX7_trim_6 rfl (by decide) rfl ?_
  have loop : ∀ (k : Nat) (x : Int) (H : zH), k ≤ u0 → x = (k : Int) - 1 → H a = oWide b k → H b = aN 16 f → wv f k = wv f u0 → zFr [a] h H → (zV X (fun r h' n' => r = none ∧ n' = n ∧ WD h' a b (wv f u0) ∧ zFr [a] h h') cX7_trim 2 RX7 none d 0 0 7 [(1, .int (iI x)), (0, .ref a)] [] H n 0 0) := by
    intro k
    induction k with
    | zero =>
      intro x H hk ex h_a h_b hv fr
      refine v_iload_n dX7_trim_7 rfl ?_
      refine w_if_lt 31 dX7_trim_8 (by decide) (by omega) (fun c1 => ?_) (fun c1 => ?_)
      · skip
        exact v_vret dX7_trim_31 trivial (Nat.le_of_ble_eq_true rfl) (Nat.le_of_ble_eq_true rfl) ⟨rfl, rfl, ⟨0, f, h_a, h_b, hf, by decide, hv, Or.inl rfl⟩, fr⟩
      · exact absurd (show x < 0 by omega) c1
    | succ k ih =>
      intro x H hk ex h_a h_b hv fr
      refine v_iload_n dX7_trim_7 rfl ?_
      refine w_if_lt 31 dX7_trim_8 (by decide) (by omega) (fun c1 => ?_) (fun c1 => ?_)
      · exact absurd c1 (by omega)
      · have := hf k
        refine v_aload_n dX7_trim_11 rfl ?_
        refine v_get fX7_9 dX7_trim_12 h_a (by decide) rfl ?_
        refine v_iload_n dX7_trim_15 rfl ?_
        refine w_nald dX7_trim_16 h_b k (by omega) (by omega) (by decide) ?_
        refine w_topi ((f k : Int) - (if f k < 2147483648 then 0 else 4294967296)) (by split <;> omega) ?_
        refine w_if_ne 31 dX7_trim_17 (by decide) (by split <;> omega) (fun c2 => ?_) (fun c2 => ?_)
        · skip
          exact v_vret dX7_trim_31 trivial (Nat.le_of_ble_eq_true rfl) (Nat.le_of_ble_eq_true rfl) ⟨rfl, rfl, ⟨k + 1, f, h_a, h_b, hf, by omega, hv, Or.inr (fun e => c2 (by show ((f k : Nat) : Int) - _ = 0; rw [show f k = 0 from e]; rfl))⟩, fr⟩
        · have e0 : f k = 0 := by split at c2 <;> omega
          refine v_aload_n dX7_trim_20 rfl ?_
          refine v_iload_n dX7_trim_21 rfl ?_
          refine v_put (fs' := [.ref b, .int (iI x)]) fX7_13 dX7_trim_22 h_a (by decide) (Nat.le_of_ble_eq_true rfl) rfl rfl rfl (fun H1 eH1 => ?_)
          have h_a : H1 a = oWide b x := zf_same eH1
          have h_b := (zf_ne eH1 ne_b_a).trans h_b
          have fr := fr.put eH1 (by simp)
          refine w_iinc (lv' := [(1, .int (iI (x + (-1)))), (0, .ref a)]) dX7_trim_25 rfl (by decide) rfl ?_
          refine v_goto 7 dX7_trim_28 (by decide) ?_
          exact ih _ _ (by omega) (by omega) (by rw [show (k : Int) = x from by omega]; exact h_a) h_b (by rw [← hv]; show wv f k = wv f k + f k * 2 ^ (32 * k); rw [e0]; omega) fr
  exact loop u0 _ h (Nat.le_refl _) rfl h_a h_b rfl fr
set_option maxHeartbeats 4000000 in
set_option maxRecDepth 100000 in
theorem p_put {d n a b v0 x : Nat} {h : zH} (hw : WD h a b v0) (hd : 1 ≤ d) (hx : x < 18446744073709551616) :
    zM yX7_put cX7_put 3 none d 0 0 [.ref a, .long (jL (x:Nat))] h n (fun r h' n' => r = none ∧ n' = n ∧ WD h' a b x ∧ zFr [a, b] h h') := by
  obtain ⟨u, f, h_a, h_b, hf, -⟩ := hw
  have ne_b_a := wne h_a h_b
  have ne_a_b := ne_b_a.symm
  refine zM_of zyX7_put rfl (Nat.le_of_ble_eq_true rfl) (fun X hX => ?_)
  have fr : zFr [a, b] h h := zFr.rf
  refine v_aload_n dX7_put_0 rfl ?_
  refine v_get fX7_9 dX7_put_1 h_a (by decide) rfl ?_
  refine v_iconst (iI 0) dX7_put_4 rfl ?_
  refine v_lload_n dX7_put_5 rfl ?_
  refine w_l2i dX7_put_6 ?_
  refine w_nast dX7_put_7 h_b 0 rfl (by decide) (by decide) (x % 4294967296) (by omega) (fun H1 eH1 => ?_)
  obtain ⟨F1, eF1⟩ : ∃ zz9, zz9 = zup f 0 (x % 4294967296) := ⟨_, rfl⟩
  rw [← eF1] at eH1
  have h_b : H1 b = aN 16 F1 := zf_same eH1
  have h_a := (zf_ne eH1 ne_a_b).trans h_a
  have fr := fr.put eH1 (by simp)
  refine v_aload_n dX7_put_8 rfl ?_
  refine v_get fX7_9 dX7_put_9 h_a (by decide) rfl ?_
  refine v_iconst (iI 1) dX7_put_12 rfl ?_
  refine v_lload_n dX7_put_13 rfl ?_
  refine v_bipush (iI 32) dX7_put_14 rfl ?_
  refine w_lushr dX7_put_16 32 4294967296 rfl rfl (by decide) (by omega) ?_
  refine w_l2i dX7_put_17 ?_
  refine w_nast dX7_put_18 h_b 1 rfl (by decide) (by decide) (x / 4294967296) (by omega) (fun H2 eH2 => ?_)
  obtain ⟨F2, eF2⟩ : ∃ zz9, zz9 = zup F1 1 (x / 4294967296) := ⟨_, rfl⟩
  rw [← eF2] at eH2
  have h_b : H2 b = aN 16 F2 := zf_same eH2
  have h_a := (zf_ne eH2 ne_a_b).trans h_a
  have fr := fr.put eH2 (by simp)
  refine v_aload_n dX7_put_19 rfl ?_
  refine v_iconst (iI 2) dX7_put_20 rfl ?_
  refine v_put (fs' := [.ref b, .int (iI 2)]) fX7_13 dX7_put_21 h_a (by decide) (Nat.le_of_ble_eq_true rfl) rfl rfl rfl (fun H3 eH3 => ?_)
  have h_a : H3 a = oWide b 2 := zf_same eH3
  have h_b := (zf_ne eH3 ne_b_a).trans h_b
  have fr := fr.put eH3 (by simp)
  refine v_aload_n dX7_put_24 rfl ?_
  have hf2 : wb F2 := by rw [eF2, eF1]; exact wb_up (wb_up hf (by omega)) (by omega)
  refine v_cV (av := []) (st := []) zyX7_trim lX7_17 h_a rfl (p_trim (d := 0) (u0 := 2) h_a h_b hf2 (by decide)) dX7_put_25 rfl rfl (Nat.le_of_ble_eq_true rfl) (by omega) (Nat.le_of_ble_eq_true rfl) (Nat.le_of_ble_eq_true rfl) (Or.inl (fun _ _ _ q => ZN q)) (fun r9 H9 n9 q9 => ?_)
  obtain ⟨rfl, q9n, hw9, fr9⟩ := q9
  have q9n := q9n.symm
  subst q9n
  have e : wv F2 2 = x := by rw [eF2, wv_up1, eF1, wv_up1]; show 0 + _ * 1 + _ * 4294967296 = x; omega
  rw [e] at hw9
  exact v_vret dX7_put_28 trivial (Nat.le_of_ble_eq_true rfl) (Nat.le_of_ble_eq_true rfl) ⟨rfl, rfl, hw9, fr.tr fr9 (by simp)⟩
set_option maxHeartbeats 4000000 in
set_option maxRecDepth 100000 in
theorem p_wordAt {d n a b v : Nat} {i : Int} {h : zH} (hw : WD h a b v) (hi : -1000000 ≤ i ∧ i < 1000000) :
    zM yX7_wordAt cX7_wordAt 2 (some .long) d 0 0 [.ref a, .int (iI i)] h n (fun r h' n' => r = some (.long (jL ((if i < 0 then 0 else wat v i.toNat : Nat)))) ∧ n' = n ∧ h' = h) := by
  obtain ⟨u, f, h_a, h_b, hf, hu, hv, -⟩ := hw
  refine zM_of zyX7_wordAt rfl (Nat.le_of_ble_eq_true rfl) (fun X hX => ?_)
  refine v_iload_n dX7_wordAt_0 rfl ?_
  refine w_if_lt 26 dX7_wordAt_1 (by decide) (by omega) (fun c1 => ?_) (fun c1 => ?_)
  · skip
    refine v_lconst (jL 0) dX7_wordAt_26 rfl ?_
    exact v_lret dX7_wordAt_27 trivial (Nat.le_of_ble_eq_true rfl) (Nat.le_of_ble_eq_true rfl) ⟨by rw [if_pos c1]; rfl, rfl, rfl⟩
  · skip
    refine v_iload_n dX7_wordAt_4 rfl ?_
    refine v_aload_n dX7_wordAt_5 rfl ?_
    refine v_get fX7_13 dX7_wordAt_6 h_a (by decide) rfl ?_
    refine w_icmp_ge 26 dX7_wordAt_9 (by decide) (by omega) (by omega) (fun c2 => ?_) (fun c2 => ?_)
    · skip
      refine v_lconst (jL 0) dX7_wordAt_26 rfl ?_
      exact v_lret dX7_wordAt_27 trivial (Nat.le_of_ble_eq_true rfl) (Nat.le_of_ble_eq_true rfl) ⟨by rw [if_neg c1, ← hv, wv_top hf (by omega)]; rfl, rfl, rfl⟩
    · skip
      refine v_aload_n dX7_wordAt_12 rfl ?_
      refine v_get fX7_9 dX7_wordAt_13 h_a (by decide) rfl ?_
      refine v_iload_n dX7_wordAt_16 rfl ?_
      refine w_nald dX7_wordAt_17 h_b i.toNat (by omega) (by omega) (by decide) ?_
      refine w_low dX7_wordAt_18 kX7_26 dX7_wordAt_19 dX7_wordAt_22 ?_
      refine v_goto 27 dX7_wordAt_23 (by decide) ?_
      have := hf i.toNat
      exact v_lret dX7_wordAt_27 trivial (Nat.le_of_ble_eq_true rfl) (Nat.le_of_ble_eq_true rfl) ⟨by rw [if_neg c1, ← hv, wv_digit hf (by omega), Int.emod_eq_of_lt (by omega) (by omega)], rfl, rfl⟩
