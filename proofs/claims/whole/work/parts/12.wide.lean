/-! Wide numbers of the class: their values, and what its methods do to them. -/
abbrev oWide (b : Nat) (u : Int32) : zC := .inr (6, [.ref b, .int u])
abbrev aI (N : Nat) (f : Nat → Int32) : zC := .inl (.int, N, .inl f)
abbrev aL (N : Nat) (f : Nat → Int64) : zC := .inl (.long, N, .inr (.inl f))
/-- the value of the first k words -/
def wv (f : Nat → Int32) : Nat → Nat
  | 0 => 0
  | k + 1 => wv f k + un (f k) * 2 ^ (32 * k)
theorem p32 (k : Nat) : 2 ^ (32 * (k + 1)) = 4294967296 * 2 ^ (32 * k) := by rw [show 32 * (k + 1) = 32 + 32 * k from by omega, Nat.pow_add]
theorem wv_lt (f : Nat → Int32) : ∀ k, wv f k < 2 ^ (32 * k)
  | 0 => Nat.zero_lt_one
  | k + 1 => by
    have h := wv_lt f k
    have h1 := un_lt (f k)
    have h2 : un (f k) * 2 ^ (32 * k) ≤ 4294967295 * 2 ^ (32 * k) := Nat.mul_le_mul_right _ (by omega)
    show wv f k + un (f k) * 2 ^ (32 * k) < _
    rw [p32]; omega
theorem wv_congr {f g : Nat → Int32} : ∀ k, (∀ i, i < k → f i = g i) → wv f k = wv g k
  | 0, _ => rfl
  | k + 1, h => by
    show wv f k + un (f k) * 2 ^ (32 * k) = wv g k + un (g k) * 2 ^ (32 * k)
    rw [wv_congr k (fun i hi => h i (by omega)), h k (by omega)]
theorem wv_upd {f : Nat → Int32} {k j : Nat} {x : Int32} (h : k ≤ j) : wv (upd f j x) k = wv f k := wv_congr k (fun i hi => pk_un (by omega))
theorem wv_split (f : Nat → Int32) (j : Nat) : ∀ m, wv f (j + m) = wv f j + 2 ^ (32 * j) * wv (fun i => f (j + i)) m
  | 0 => by simp [wv]
  | m + 1 => by
    show wv f (j + m) + un (f (j + m)) * 2 ^ (32 * (j + m)) = wv f j + 2 ^ (32 * j) * (wv (fun i => f (j + i)) m + un (f (j + m)) * 2 ^ (32 * m))
    rw [wv_split f j m, Nat.mul_add 32 j m, Nat.pow_add]
    grind
theorem p_pos (k : Nat) : 0 < 2 ^ k := Nat.pow_pos (by decide)
theorem wv_div (f : Nat → Int32) (j m : Nat) : wv f (j + m) / 2 ^ (32 * j) = wv (fun i => f (j + i)) m := by
  rw [wv_split, Nat.add_mul_div_left _ _ (p_pos _), Nat.div_eq_of_lt (wv_lt f j), Nat.zero_add]
theorem wv_mod (f : Nat → Int32) (j m : Nat) : wv f (j + m) % 2 ^ (32 * j) = wv f j := by
  rw [wv_split, Nat.add_mul_mod_self_left, Nat.mod_eq_of_lt (wv_lt f j)]
theorem wv_digit (f : Nat → Int32) {j u : Nat} (h : j < u) : wv f u / 2 ^ (32 * j) % 4294967296 = un (f j) := by
  obtain ⟨m, rfl⟩ : ∃ m, u = j + (1 + m) := ⟨u - j - 1, by omega⟩
  rw [wv_div, wv_split _ 1 m]
  show (wv (fun i => f (j + i)) 1 + 4294967296 * _) % 4294967296 = _
  rw [Nat.add_mul_mod_self_left]
  show (0 + un (f (j + 0)) * 1) % 4294967296 = _
  rw [Nat.zero_add, Nat.mul_one, Nat.mod_eq_of_lt (un_lt _)]; rfl
theorem wv_top (f : Nat → Int32) {j u : Nat} (h : u ≤ j) : wv f u / 2 ^ (32 * j) = 0 := by
  apply Nat.div_eq_of_lt
  exact Nat.lt_of_lt_of_le (wv_lt f u) (Nat.pow_le_pow_right (by decide) (by omega))
/-- the Wide at a, with its words at b, is v -/
def WD (h : zH) (a b v : Nat) : Prop := ∃ (u : Nat) (f : Nat → Int32), h a = oWide b (nI u) ∧ h b = aI 16 f ∧ u ≤ 16 ∧ wv f u = v ∧ (u = 0 ∨ f (u - 1) ≠ 0)
/-- a Wide stands at a, its words at b -/
def WS (h : zH) (a b : Nat) : Prop := ∃ (u : Int32) (f : Nat → Int32), h a = oWide b u ∧ h b = aI 16 f
theorem WD.ws {h : zH} {a b v : Nat} (q : WD h a b v) : WS h a b := by
  obtain ⟨u, f, h1, h2, -⟩ := q
  exact ⟨_, f, h1, h2⟩
theorem WD.lt {h : zH} {a b v : Nat} (q : WD h a b v) : v < 2 ^ 512 := by
  obtain ⟨u, f, h1, h2, h3, h4, -⟩ := q
  rw [← h4]
  exact Nat.lt_of_lt_of_le (wv_lt f u) (Nat.pow_le_pow_right (by decide) (by omega))
theorem WD.fr {h h' : zH} {a b v : Nat} {S : List Nat} (q : WD h a b v) (f : zFr S h h') (ha : a ∉ S) (hb : b ∉ S) : WD h' a b v := by
  obtain ⟨u, g, h1, h2, h3⟩ := q
  exact ⟨u, g, (f a ha).trans h1, (f b hb).trans h2, h3⟩
theorem WS.fr {h h' : zH} {a b : Nat} {S : List Nat} (q : WS h a b) (f : zFr S h h') (ha : a ∉ S) (hb : b ∉ S) : WS h' a b := by
  obtain ⟨u, g, h1, h2⟩ := q
  exact ⟨u, g, (f a ha).trans h1, (f b hb).trans h2⟩
theorem wne {h : zH} {a b N : Nat} {o : Nat × List Value} {x : FieldType × vp_A} (h1 : h a = .inr o) (h2 : h b = .inl x) : b ≠ a := fun e => by rw [e, h1] at h2; cases h2
theorem vin {i : Int32} {N : Nat} (h : decide (¬ (i < 0 ∨ N ≤ i.toNatClampNeg)) = true) : vp_in i N := of_decide_eq_true h
theorem ZN {n n' : Nat} {A : Prop} {r r' : Option Value} (q : r = r' ∧ n' = n ∧ A) : n' = n := q.2.1
set_option maxHeartbeats 4000000 in
set_option maxRecDepth 100000 in
theorem p_trim {d n a b u0 : Nat} {h : zH} {f : Nat → Int32} (h_a : h a = oWide b (nI u0)) (h_b : h b = aI 16 f) (hu : u0 ≤ 16) :
    zM yX7_trim cX7_trim 2 none d 0 0 [.ref a] h n (fun r h' n' => r = none ∧ n' = n ∧ WD h' a b (wv f u0) ∧ zFr [a] h h') := by
  have ne_b_a := wne (N := 0) h_a h_b
  refine zM_of zyX7_trim rfl (Nat.le_of_ble_eq_true rfl) (fun X hX => ?_)
  refine v_aload_n dX7_trim_0 rfl ?_
  refine v_get fX7_13 dX7_trim_1 h_a (by decide) rfl ?_
  refine v_iconst 1 dX7_trim_4 rfl ?_
  refine v_isub dX7_trim_5 ?_
  refine v_topi (fun x1 ex1 => ?_)
  refine v_istore_n (i := 1) (lv' := [(1, .int x1), (0, .ref a)]) dX7_trim_6 rfl (by decide) rfl ?_
  have loop : ∀ (k : Nat) (x : Int32) (H : zH), k ≤ u0 → x = nI k - 1 → H a = oWide b (nI k) → H b = aI 16 f → wv f k = wv f u0 → zFr [a] h H → zV X (fun r h' n' => r = none ∧ n' = n ∧ WD h' a b (wv f u0) ∧ zFr [a] h h') cX7_trim 2 RX7 none d 0 0 7 [(1, .int x), (0, .ref a)] [] H n 0 0 := by
    intro k
    induction k with
    | zero =>
      intro x H hk ex h_a h_b hv fr
      refine v_iload_n dX7_trim_7 rfl ?_
      refine v_if_lt 31 dX7_trim_8 (by decide) (fun c1 => ?_) (fun c1 => ?_)
      · skip
        exact v_vret dX7_trim_31 trivial (Nat.le_of_ble_eq_true rfl) (Nat.le_of_ble_eq_true rfl) ⟨rfl, rfl, ⟨0, f, h_a, h_b, by decide, hv, Or.inl rfl⟩, fr⟩
      · exact absurd (by rw [ex]; decide) c1
    | succ k ih =>
      intro x H hk ex h_a h_b hv fr
      have ex : x = nI k := ex.trans (nI_pred k)
      refine v_iload_n dX7_trim_7 rfl ?_
      refine v_if_lt 31 dX7_trim_8 (by decide) (fun c1 => ?_) (fun c1 => ?_)
      · exact absurd c1 (by rw [ex]; exact nI_pos (by omega))
      · skip
        refine v_aload_n dX7_trim_11 rfl ?_
        refine v_get fX7_9 dX7_trim_12 h_a (by decide) rfl ?_
        refine v_iload_n dX7_trim_15 rfl ?_
        refine v_iald dX7_trim_16 h_b (by rw [ex]; exact vp_in_nI (by omega) (by decide)) ?_
        refine v_if_ne 31 dX7_trim_17 (by decide) (fun c2 => ?_) (fun c2 => ?_)
        · skip
          exact v_vret dX7_trim_31 trivial (Nat.le_of_ble_eq_true rfl) (Nat.le_of_ble_eq_true rfl) ⟨rfl, rfl, ⟨k + 1, f, h_a, h_b, by omega, hv, Or.inr (by rw [ex, nI_clamp (by omega)] at c2; exact c2)⟩, fr⟩
        · rw [ex, nI_clamp (by omega)] at c2
          refine v_aload_n dX7_trim_20 rfl ?_
          refine v_iload_n dX7_trim_21 rfl ?_
          refine v_put (fs' := [.ref b, .int x]) fX7_13 dX7_trim_22 h_a (by decide) (Nat.le_of_ble_eq_true rfl) rfl rfl rfl (fun H1 eH1 => ?_)
          have h_a : H1 a = oWide b x := zf_same eH1
          have h_b := (zf_ne eH1 ne_b_a).trans h_b
          have fr := fr.put eH1 (by simp)
          obtain ⟨y1, ey1⟩ : ∃ y : Int32, y = x + (-1) := ⟨_, rfl⟩
          refine v_iinc y1 (lv' := [(1, .int y1), (0, .ref a)]) dX7_trim_25 rfl (by rw [ey1]; rfl) (by decide) rfl ?_
          refine v_goto 7 dX7_trim_28 (by decide) ?_
          exact ih _ _ (by omega) (by rw [ey1, ex, Int32.sub_eq_add_neg]) (by rw [← ex]; exact h_a) h_b (by rw [← hv]; show wv f k = wv f k + un (f k) * 2 ^ (32 * k); rw [c2, un_0]; omega) fr
  exact loop u0 _ h (Nat.le_refl _) ex1 h_a h_b rfl zFr.rf
set_option maxHeartbeats 4000000 in
set_option maxRecDepth 100000 in
theorem p_put {d n a b : Nat} {h : zH} {x : Int64} (hw : WS h a b) (hd : 1 ≤ d) :
    zM yX7_put cX7_put 3 none d 0 0 [.ref a, .long x] h n (fun r h' n' => r = none ∧ n' = n ∧ WD h' a b (ul x) ∧ zFr [a, b] h h') := by
  obtain ⟨u, f, h_a, h_b⟩ := hw
  have ne_b_a := wne (N := 0) h_a h_b
  have ne_a_b := ne_b_a.symm
  refine zM_of zyX7_put rfl (Nat.le_of_ble_eq_true rfl) (fun X hX => ?_)
  have fr : zFr [a, b] h h := zFr.rf
  refine v_aload_n dX7_put_0 rfl ?_
  refine v_get fX7_9 dX7_put_1 h_a (by decide) rfl ?_
  refine v_iconst 0 dX7_put_4 rfl ?_
  refine v_lload_n dX7_put_5 rfl ?_
  refine v_l2i dX7_put_6 ?_
  refine v_topi (fun lo1 elo1 => ?_)
  refine v_iast dX7_put_7 h_b (vin rfl) (fun H1 eH1 => ?_)
  obtain ⟨F1, eF1⟩ : ∃ g, g = upd f (0 : Int32).toNatClampNeg lo1 := ⟨_, rfl⟩
  rw [← eF1] at eH1
  have h_b : H1 b = aI 16 F1 := zf_same eH1
  have h_a := (zf_ne eH1 ne_a_b).trans h_a
  have fr := fr.put eH1 (by simp)
  refine v_aload_n dX7_put_8 rfl ?_
  refine v_get fX7_9 dX7_put_9 h_a (by decide) rfl ?_
  refine v_iconst 1 dX7_put_12 rfl ?_
  refine v_lload_n dX7_put_13 rfl ?_
  refine v_bipush 32 dX7_put_14 rfl ?_
  refine v_lushr dX7_put_16 ?_
  refine v_l2i dX7_put_17 ?_
  refine v_topi (fun hi1 ehi1 => ?_)
  refine v_iast dX7_put_18 h_b (vin rfl) (fun H2 eH2 => ?_)
  obtain ⟨F2, eF2⟩ : ∃ g, g = upd F1 (1 : Int32).toNatClampNeg hi1 := ⟨_, rfl⟩
  rw [← eF2] at eH2
  have h_b : H2 b = aI 16 F2 := zf_same eH2
  have h_a := (zf_ne eH2 ne_a_b).trans h_a
  have fr := fr.put eH2 (by simp)
  refine v_aload_n dX7_put_19 rfl ?_
  refine v_iconst 2 dX7_put_20 rfl ?_
  refine v_put (fs' := [.ref b, .int 2]) fX7_13 dX7_put_21 h_a (by decide) (Nat.le_of_ble_eq_true rfl) rfl rfl rfl (fun H3 eH3 => ?_)
  have h_a : H3 a = oWide b 2 := zf_same eH3
  have h_b := (zf_ne eH3 ne_b_a).trans h_b
  have fr := fr.put eH3 (by simp)
  refine v_aload_n dX7_put_24 rfl ?_
  refine v_cV (av := []) zyX7_trim lX7_17 h_a rfl (p_trim (d := 0) (u0 := 2) h_a h_b (by decide)) dX7_put_25 rfl rfl (Nat.le_of_ble_eq_true rfl) (by omega) (Nat.le_of_ble_eq_true rfl) (Nat.le_of_ble_eq_true rfl) (Or.inl (fun _ _ _ q => ZN q)) (fun r h9 n9 q => ?_)
  obtain ⟨rfl, rfl, hw9, fr9⟩ := q
  have e : wv F2 2 = ul x := by
    show 0 + un (F2 0) * 1 + un (F2 1) * 4294967296 = ul x
    have hx := ul_lt x
    have e1 : F2 1 = hi1 := by rw [eF2]; exact pk_us
    have e0 : F2 0 = lo1 := by rw [eF2, pk_un (show 0 ≠ (1 : Int32).toNatClampNeg from by decide), eF1]; exact pk_us
    rw [e0, e1, elo1, ehi1, un_l2i, un_l2i, ul_ushr32]
    omega
  rw [e] at hw9
  exact v_vret dX7_put_28 trivial (Nat.le_of_ble_eq_true rfl) (Nat.le_of_ble_eq_true rfl) ⟨rfl, rfl, hw9, fr.tr fr9 (by simp)⟩
