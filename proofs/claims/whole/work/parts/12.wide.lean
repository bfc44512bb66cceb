/-! Wide numbers of the class: their values, and what its methods do to them. -/
abbrev oWide (b : Nat) (u : Int32) : zC := .inr (6, [.ref b, .int u])
abbrev aI (N : Nat) (f : Nat → Int32) : zC := .inl (.int, N, .inl f)
abbrev aL (N : Nat) (f : Nat → Int64) : zC := .inl (.long, N, .inr (.inl f))
/-- an int as a number from 0 on -/
def un (x : Int32) : Nat := x.toBitVec.toNat
theorem un_lt (x : Int32) : un x < 4294967296 := x.toBitVec.isLt
theorem un_inj {x y : Int32} (h : un x = un y) : x = y := Int32.toBitVec_inj.mp (BitVec.eq_of_toNat_eq h)
theorem un_0 : un 0 = 0 := rfl
/-- the value of the first k words -/
def wv (f : Nat → Int32) : Nat → Nat
  | 0 => 0
  | k + 1 => wv f k + un (f k) * 2 ^ (32 * k)
theorem wv_lt (f : Nat → Int32) : ∀ k, wv f k < 2 ^ (32 * k)
  | 0 => Nat.zero_lt_one
  | k + 1 => by
    have h := wv_lt f k
    have h1 := un_lt (f k)
    have e : 2 ^ (32 * (k + 1)) = 4294967296 * 2 ^ (32 * k) := by rw [show 32 * (k + 1) = 32 + 32 * k from by omega, Nat.pow_add]
    have h2 : un (f k) * 2 ^ (32 * k) ≤ 4294967295 * 2 ^ (32 * k) := Nat.mul_le_mul_right _ (by omega)
    show wv f k + un (f k) * 2 ^ (32 * k) < _
    rw [e]; omega
/-- the Wide at a, with its words at b, is v -/
def WD (h : zH) (a b v : Nat) : Prop := ∃ (u : Nat) (f : Nat → Int32), h a = oWide b (nI u) ∧ h b = aI 16 f ∧ u ≤ 16 ∧ wv f u = v ∧ (u = 0 ∨ f (u - 1) ≠ 0)
theorem ZN {n n' : Nat} {A : Prop} {r r' : Option Value} (q : r = r' ∧ n' = n ∧ A) : n' = n := q.2.1
set_option maxHeartbeats 4000000 in
set_option maxRecDepth 100000 in
theorem p_trim {d n a b u0 : Nat} {h : zH} {f : Nat → Int32} (h_a : h a = oWide b (nI u0)) (h_b : h b = aI 16 f) (hu : u0 ≤ 16) :
    zM yX7_trim cX7_trim 2 none d 0 0 [.ref a] h n (fun r h' n' => r = none ∧ n' = n ∧ WD h' a b (wv f u0) ∧ zFr [a] h h') := by
  have ne_b_a : b ≠ a := fun e => by rw [e, h_a] at h_b; cases h_b
  refine zM_of zyX7_trim rfl (Nat.le_of_ble_eq_true rfl) (fun X hX => ?_)
  refine v_aload_n dX7_trim_0 rfl ?_
  refine v_get fX7_13 dX7_trim_1 h_a (by decide) rfl ?_
  refine v_iconst 1 dX7_trim_4 rfl ?_
  refine v_isub dX7_trim_5 ?_
  refine v_topi (fun x1 ex1 => ?_)
  refine v_istore_n (i := 1) (lv' := [(1, .int x1), (0, .ref a)]) dX7_trim_6 rfl (by decide) rfl ?_
  have loop : ∀ (k : Nat) (x : Int32) (H : zH), k ≤ u0 → x = nI k - 1 → H a = oWide b (nI k) → H b = aI 16 f → wv f k = wv f u0 → zFr [a] h H → zV X (fun r h' n' => r = none ∧ n' = n ∧ WD h' a b (wv f u0) ∧ zFr [a] h h') cX7_trim 2 RX7 none d 0 0 7 [(1, .int x), (0, .ref a)] [] H n 0 0 := by
    intro k
    induction k with
    | zero =>
      intro x H hk ex h_a h_b hv fr
      refine v_iload_n dX7_trim_7 rfl ?_
      refine v_if_lt 31 dX7_trim_8 (by decide) (fun c1 => ?_) (fun c1 => ?_)
      · exact v_vret dX7_trim_31 trivial (by decide) (by decide) ⟨rfl, rfl, ⟨0, f, h_a, h_b, by decide, hv, Or.inl rfl⟩, fr⟩
      · exact absurd (by rw [ex]; decide) c1
    | succ k ih =>
      intro x H hk ex h_a h_b hv fr
      have ex : x = nI k := ex.trans (nI_pred k)
      refine v_iload_n dX7_trim_7 rfl ?_
      refine v_if_lt 31 dX7_trim_8 (by decide) (fun c1 => ?_) (fun c1 => ?_)
      · exact absurd c1 (by rw [ex]; exact nI_pos (by omega))
      · refine v_aload_n dX7_trim_11 rfl ?_
        refine v_get fX7_9 dX7_trim_12 h_a (by decide) rfl ?_
        refine v_iload_n dX7_trim_15 rfl ?_
        refine v_iald dX7_trim_16 h_b (by rw [ex]; exact vp_in_nI (by omega) (by decide)) ?_
        refine v_if_ne 31 dX7_trim_17 (by decide) (fun c2 => ?_) (fun c2 => ?_)
        · exact v_vret dX7_trim_31 trivial (by decide) (by decide) ⟨rfl, rfl, ⟨k + 1, f, h_a, h_b, by omega, hv, Or.inr (by rw [ex, nI_clamp (by omega)] at c2; exact c2)⟩, fr⟩
        · rw [ex, nI_clamp (by omega)] at c2
          refine v_aload_n dX7_trim_20 rfl ?_
          refine v_iload_n dX7_trim_21 rfl ?_
          refine v_put (fs' := [.ref b, .int x]) fX7_13 dX7_trim_22 h_a (by decide) (Nat.le_of_ble_eq_true rfl) rfl rfl rfl (fun H2 eH2 => ?_)
          have h_a : H2 a = oWide b x := zf_same eH2
          have h_b := (zf_ne eH2 ne_b_a).trans h_b
          have fr := fr.put eH2 (by simp)
          obtain ⟨x3, ex3⟩ : ∃ y : Int32, y = x + (-1) := ⟨_, rfl⟩
          refine v_iinc x3 (lv' := [(1, .int x3), (0, .ref a)]) dX7_trim_25 rfl (by rw [ex3]; rfl) (by decide) rfl ?_
          refine v_goto 7 dX7_trim_28 (by decide) ?_
          exact ih x3 H2 (by omega) (by rw [ex3, ex, Int32.sub_eq_add_neg]) (by rw [← ex]; exact h_a) h_b (by rw [← hv]; show wv f k = wv f k + un (f k) * 2 ^ (32 * k); rw [c2, un_0]; omega) fr
  exact loop u0 x1 h (Nat.le_refl _) ex1 h_a h_b rfl zFr.rf
