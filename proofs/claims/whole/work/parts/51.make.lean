/-! The constructors. -/
def zkc (n : Nat) (c : zC) : Prop := ∀ (σ σ' : Nat → Nat), (∀ i, i < n → σ i = σ' i) → ∀ k : ClassId, ze σ k c = ze σ' k c
theorem zkc_o {n ci : Nat} {fs : List Value} (h : zB n fs) : zkc n (.inr (ci, fs)) := zk_o h
theorem zkc_i {n : Nat} {ty : FieldType} {N : Nat} {f : Nat → Int32} : zkc n (.inl (ty, N, .inl f)) := fun _ _ _ _ => rfl
theorem zkc_l {n : Nat} {ty : FieldType} {N : Nat} {f : Nat → Int64} : zkc n (.inl (ty, N, .inr (.inl f))) := fun _ _ _ _ => rfl
theorem zkc_q {n : Nat} {f : Nat → Option Nat} {C : String} (h : ∀ j i, f j = some i → i < n) : zkc n (oQarr f C) := zk_a (fun N g e j i hj => by
  have : g = f := by cases e; rfl
  rw [this] at hj
  exact h j i hj)
theorem zk_put {h h' : zH} {n a : Nat} {c : zC} (e : zu h a c = h') (hk : zk h n) (hc : zkc n c) : zk h' n := e ▸ zk_set hk hc
theorem zk_psh {h h' : zH} {n : Nat} {c : zC} (e : zu h n c = h') (hk : zk h n) (hc : zkc (n + 1) c) : zk h' (n + 1) := e ▸ zk_push hk hc
theorem zk_f1 {h h' : zH} {n a : Nat} (hk : zk h n) (f : zFr [a] h h') (hc : zkc n (h' a)) : zk h' n := fun k hkn σ σ' hσ c9 => by
  by_cases e : k = a
  · subst e; exact hc σ σ' hσ c9
  · rw [f k (fun z => e (List.mem_singleton.mp z))]; exact hk k hkn σ σ' hσ c9
set_option maxHeartbeats 8000000 in
set_option maxRecDepth 100000 in
theorem p_iWide {d a n : Nat} {h : zH} (h_a : h a = .inr (6, [.null, .int (iI 0)])) (ha : a < n) (hk : zk h n) (hd : 1 ≤ d) :
    zM yX7_init cX7_init 1 none d 1 16 [.ref a] h n (fun r h' n' => r = none ∧ n' = n + 1 ∧ WD h' a n 0 ∧ zk h' (n + 1) ∧ zFr [a, n] h h') := by
  have ne_a_n : a ≠ n := by omega
  have ne_n_a : n ≠ a := by omega
  refine zM_of zyX7_init rfl (Nat.le_of_ble_eq_true rfl) (fun X hX => ?_)
  have fr : zFr [a, n] h h := zFr.rf
  refine v_aload_n dX7_init_0 rfl ?_
  refine v_objInit oX7_1 dX7_init_1 (by omega) (Nat.le_of_ble_eq_true rfl) ?_
  refine v_aload_n dX7_init_4 rfl ?_
  refine v_bipush (iI 16) dX7_init_5 rfl ?_
  refine v_newa (ty := .int) (a0 := (16, .inl (fun _ => iI ((0 : Nat) : Int)))) (N := 16) ac_int rfl (fun _ => rfl) (fun _ => rfl) (by decide) rfl (by decide) dX7_init_7 (Nat.le_of_ble_eq_true rfl) (Nat.le_of_ble_eq_true rfl) hk ⟨by repeat (first | exact zB_n | refine zB_r (by omega) ?_ | refine zB_i ?_ | refine zB_l ?_ | refine zB_z ?_), by repeat (first | exact zB_n | refine zB_r (by omega) ?_ | refine zB_i ?_ | refine zB_l ?_ | refine zB_z ?_)⟩ (fun H1 eH1 => ?_)
  have h_n : H1 n = aN 16 (fun _ => 0) := zf_same eH1
  have h_a := (zf_ne eH1 ne_a_n).trans h_a
  have fr := fr.put eH1 (by simp)
  have hk := zk_psh eH1 hk zkc_i
  refine v_putF (fs' := [.ref n, .int (iI 0)]) hX ffX7_9 dX7_init_9 h_a (by decide) (Nat.le_of_ble_eq_true rfl) rfl rfl rfl (fun H2 eH2 => ?_)
  have h_a : H2 a = oWide n 0 := zf_same eH2
  have h_n := (zf_ne eH2 ne_n_a).trans h_n
  have fr := fr.put eH2 (by simp)
  have hk := zk_put eH2 hk (zkc_o (by repeat (first | exact zB_n | refine zB_r (by omega) ?_ | refine zB_i ?_ | refine zB_l ?_ | refine zB_z ?_)))
  exact v_vret dX7_init_12 trivial (Nat.le_of_ble_eq_true rfl) (Nat.le_of_ble_eq_true rfl) ⟨rfl, rfl, ⟨0, fun _ => 0, h_a, h_n, (fun _ => Nat.zero_lt_succ _), by decide, rfl, Or.inl rfl⟩, hk, fr⟩
set_option maxHeartbeats 8000000 in
set_option maxRecDepth 100000 in
theorem p_iQuire {d a n : Nat} {h : zH} (h_a : h a = .inr (3, [.null, .int (iI (bz false))])) (ha : a < n) (hk : zk h n) (hd : 1 ≤ d) :
    zM yX3_init cX3_init 1 none d 1 16 [.ref a] h n (fun r h' n' => r = none ∧ n' = n + 1 ∧ QD h' a n false 0 ∧ zk h' (n + 1) ∧ zFr [a, n] h h') := by
  have ne_a_n : a ≠ n := by omega
  have ne_n_a : n ≠ a := by omega
  refine zM_of zyX3_init rfl (Nat.le_of_ble_eq_true rfl) (fun X hX => ?_)
  have fr : zFr [a, n] h h := zFr.rf
  refine v_aload_n dX3_init_0 rfl ?_
  refine v_objInit oX3_1 dX3_init_1 (by omega) (Nat.le_of_ble_eq_true rfl) ?_
  refine v_aload_n dX3_init_4 rfl ?_
  refine v_bipush (iI 16) dX3_init_5 rfl ?_
  refine v_newa (ty := .int) (a0 := (16, .inl (fun _ => iI ((0 : Nat) : Int)))) (N := 16) ac_int rfl (fun _ => rfl) (fun _ => rfl) (by decide) rfl (by decide) dX3_init_7 (Nat.le_of_ble_eq_true rfl) (Nat.le_of_ble_eq_true rfl) hk ⟨by repeat (first | exact zB_n | refine zB_r (by omega) ?_ | refine zB_i ?_ | refine zB_l ?_ | refine zB_z ?_), by repeat (first | exact zB_n | refine zB_r (by omega) ?_ | refine zB_i ?_ | refine zB_l ?_ | refine zB_z ?_)⟩ (fun H1 eH1 => ?_)
  have h_n : H1 n = aN 16 (fun _ => 0) := zf_same eH1
  have h_a := (zf_ne eH1 ne_a_n).trans h_a
  have fr := fr.put eH1 (by simp)
  have hk := zk_psh eH1 hk zkc_i
  refine v_putF (fs' := [.ref n, .int (iI (bz false))]) hX ffX3_9 dX3_init_9 h_a (by decide) (Nat.le_of_ble_eq_true rfl) rfl rfl rfl (fun H2 eH2 => ?_)
  have h_a : H2 a = oQuire n false := zf_same eH2
  have h_n := (zf_ne eH2 ne_n_a).trans h_n
  have fr := fr.put eH2 (by simp)
  have hk := zk_put eH2 hk (zkc_o (by repeat (first | exact zB_n | refine zB_r (by omega) ?_ | refine zB_i ?_ | refine zB_l ?_ | refine zB_z ?_)))
  exact v_vret dX3_init_12 trivial (Nat.le_of_ble_eq_true rfl) (Nat.le_of_ble_eq_true rfl) ⟨rfl, rfl, ⟨fun _ => 0, h_a, h_n, (fun _ => Nat.zero_lt_succ _), by decide⟩, hk, fr⟩
set_option maxHeartbeats 8000000 in
set_option maxRecDepth 100000 in
theorem p_iNat {d a n : Nat} {h : zH} (h_a : h a = .inr (8, [.null, .int (iI 0)])) (ha : a < n) (hk : zk h n) (hd : 1 ≤ d) :
    zM yX9_init cX9_init 1 none d 1 420 [.ref a] h n (fun r h' n' => r = none ∧ n' = n + 1 ∧ ND h' a n 0 ∧ zk h' (n + 1) ∧ zFr [a, n] h h') := by
  have ne_a_n : a ≠ n := by omega
  have ne_n_a : n ≠ a := by omega
  refine zM_of zyX9_init rfl (Nat.le_of_ble_eq_true rfl) (fun X hX => ?_)
  have fr : zFr [a, n] h h := zFr.rf
  refine v_aload_n dX9_init_0 rfl ?_
  refine v_objInit oX9_3 dX9_init_1 (by omega) (Nat.le_of_ble_eq_true rfl) ?_
  refine v_aload_n dX9_init_4 rfl ?_
  refine v_sipush (iI 420) dX9_init_5 rfl ?_
  refine v_newa (ty := .int) (a0 := (420, .inl (fun _ => iI ((0 : Nat) : Int)))) (N := 420) ac_int rfl (fun _ => rfl) (fun _ => rfl) (by decide) rfl (by decide) dX9_init_8 (Nat.le_of_ble_eq_true rfl) (Nat.le_of_ble_eq_true rfl) hk ⟨by repeat (first | exact zB_n | refine zB_r (by omega) ?_ | refine zB_i ?_ | refine zB_l ?_ | refine zB_z ?_), by repeat (first | exact zB_n | refine zB_r (by omega) ?_ | refine zB_i ?_ | refine zB_l ?_ | refine zB_z ?_)⟩ (fun H1 eH1 => ?_)
  have h_n : H1 n = aN 420 (fun _ => 0) := zf_same eH1
  have h_a := (zf_ne eH1 ne_a_n).trans h_a
  have fr := fr.put eH1 (by simp)
  have hk := zk_psh eH1 hk zkc_i
  refine v_putF (fs' := [.ref n, .int (iI 0)]) hX ffX9_9 dX9_init_10 h_a (by decide) (Nat.le_of_ble_eq_true rfl) rfl rfl rfl (fun H2 eH2 => ?_)
  have h_a : H2 a = oNat n 0 := zf_same eH2
  have h_n := (zf_ne eH2 ne_n_a).trans h_n
  have fr := fr.put eH2 (by simp)
  have hk := zk_put eH2 hk (zkc_o (by repeat (first | exact zB_n | refine zB_r (by omega) ?_ | refine zB_i ?_ | refine zB_l ?_ | refine zB_z ?_)))
  exact v_vret dX9_init_13 trivial (Nat.le_of_ble_eq_true rfl) (Nat.le_of_ble_eq_true rfl) ⟨rfl, rfl, ⟨0, fun _ => 0, h_a, h_n, (fun _ => Nat.zero_lt_succ _), by decide, rfl, Or.inl rfl⟩, hk, fr⟩
set_option maxHeartbeats 8000000 in
set_option maxRecDepth 100000 in
theorem p_iPosit {d a n : Nat} {h : zH} (hd : 1 ≤ d) :
    zM yX2_init cX2_init 1 none d 0 0 [.ref a] h n (fun r h' n' => r = none ∧ n' = n ∧ h' = h) := by
  refine zM_of zyX2_init rfl (Nat.le_of_ble_eq_true rfl) (fun X hX => ?_)
  refine v_aload_n dX2_init_0 rfl ?_
  refine v_objInit oX2_1 dX2_init_1 (by omega) (Nat.le_of_ble_eq_true rfl) ?_
  exact v_vret dX2_init_4 trivial (Nat.le_of_ble_eq_true rfl) (Nat.le_of_ble_eq_true rfl) ⟨rfl, rfl, rfl⟩
set_option maxHeartbeats 8000000 in
set_option maxRecDepth 100000 in
theorem p_iSum {d a n : Nat} {h : zH} (h_a : h a = .inr (9, [.null, .int (iI 0), .int (iI (bz false))])) (ha : a < n) (hk : zk h n) (hd : 2 ≤ d) :
    zM yX10_init cX10_init 1 none d 2 422 [.ref a] h n (fun r h' n' => r = none ∧ n' = n + 2 ∧ SQ h' a n (n + 1) 0 false ∧ zk h' (n + 2) ∧ zFr [a, n, n + 1] h h') := by
  have ne_a_n : a ≠ n := by omega
  have ne_n_a : n ≠ a := by omega
  refine zM_of zyX10_init rfl (Nat.le_of_ble_eq_true rfl) (fun X hX => ?_)
  have fr : zFr [a, n, n + 1] h h := zFr.rf
  refine v_aload_n dX10_init_0 rfl ?_
  refine v_objInit oX10_1 dX10_init_1 (by omega) (Nat.le_of_ble_eq_true rfl) ?_
  refine v_aload_n dX10_init_4 rfl ?_
  refine v_new nX10_7 dX10_init_5 (Nat.le_of_ble_eq_true rfl) (Nat.le_of_ble_eq_true rfl) hk ⟨by repeat (first | exact zB_n | refine zB_r (by omega) ?_ | refine zB_i ?_ | refine zB_l ?_ | refine zB_z ?_), by repeat (first | exact zB_n | refine zB_r (by omega) ?_ | refine zB_i ?_ | refine zB_l ?_ | refine zB_z ?_)⟩ (fun H1 eH1 => ?_)
  have h_n : H1 n = .inr (8, [.null, .int (iI 0)]) := zf_same eH1
  have h_a := (zf_ne eH1 ne_a_n).trans h_a
  have fr := fr.put eH1 (by simp)
  have hk := zk_psh eH1 hk (zkc_o (by repeat (first | exact zB_n | refine zB_r (by omega) ?_ | refine zB_i ?_ | refine zB_l ?_ | refine zB_z ?_)))
  refine v_dup dX10_init_8 rfl ?_
  refine v_cIN (av := []) (st := [.ref n, .ref a]) zyX9_init lX10_9 (p_iNat (d := 1) h_n (by omega) hk (by decide)) dX10_init_9 rfl rfl (Nat.le_of_ble_eq_true rfl) (by omega) (Nat.le_of_ble_eq_true rfl) (Nat.le_of_ble_eq_true rfl) (Or.inr ⟨by repeat (first | exact zB_n | refine zB_r (by omega) ?_ | refine zB_i ?_ | refine zB_l ?_ | refine zB_z ?_), by repeat (first | exact zB_n | refine zB_r (by omega) ?_ | refine zB_i ?_ | refine zB_l ?_ | refine zB_z ?_)⟩) (fun r9 G1 n9 q9 => ?_)
  obtain ⟨rfl, q9n, w9, hk, fr9⟩ := q9
  have q9n := q9n.symm
  subst q9n
  have h_a := (fr9 a (by simp; omega)).trans h_a
  have fr := fr.tr fr9 (by simp)
  refine v_putF (fs' := [.ref n, .int (iI 0), .int (iI (bz false))]) hX ffX10_10 dX10_init_12 h_a (by decide) (Nat.le_of_ble_eq_true rfl) rfl rfl rfl (fun H2 eH2 => ?_)
  have h_a : H2 a = oSum n 0 false := zf_same eH2
  have fr := fr.put eH2 (by simp)
  have hk := zk_put eH2 hk (zkc_o (by repeat (first | exact zB_n | refine zB_r (by omega) ?_ | refine zB_i ?_ | refine zB_l ?_ | refine zB_z ?_)))
  have fz : zFr [a] G1 H2 := zFr.put zFr.rf eH2 (by simp)
  exact v_vret dX10_init_15 trivial (Nat.le_of_ble_eq_true rfl) (Nat.le_of_ble_eq_true rfl) ⟨rfl, rfl, ⟨h_a, w9.fr fz (by simp; omega) (by simp; omega)⟩, hk, fr⟩
set_option maxHeartbeats 8000000 in
set_option maxRecDepth 100000 in
theorem p_iSeeker {d : Nat} {h : zH} (h_23 : h 23 = .inr (4, [.null, .null, .null, .int (iI (bz false))])) (hk : zk h 24) (hd : 2 ≤ d) :
    zM yX5_init cX5_init 1 none d 6 54 [.ref 23] h 24 (fun r h' n' => r = none ∧ n' = 30 ∧ SK h' 0 0 false ∧ zk h' 30 ∧ zFr [23, 24, 25, 26, 27, 28, 29] h h') := by
  refine zM_of zyX5_init rfl (Nat.le_of_ble_eq_true rfl) (fun X hX => ?_)
  have fr : zFr [23, 24, 25, 26, 27, 28, 29] h h := zFr.rf
  refine v_aload_n dX5_init_0 rfl ?_
  refine v_objInit oX5_1 dX5_init_1 (by omega) (Nat.le_of_ble_eq_true rfl) ?_
  refine v_aload_n dX5_init_4 rfl ?_
  refine v_new nX5_7 dX5_init_5 (Nat.le_of_ble_eq_true rfl) (Nat.le_of_ble_eq_true rfl) hk ⟨by repeat (first | exact zB_n | refine zB_r (by omega) ?_ | refine zB_i ?_ | refine zB_l ?_ | refine zB_z ?_), by repeat (first | exact zB_n | refine zB_r (by omega) ?_ | refine zB_i ?_ | refine zB_l ?_ | refine zB_z ?_)⟩ (fun H1 eH1 => ?_)
  have h_24 : H1 24 = .inr (6, [.null, .int (iI 0)]) := zf_same eH1
  have h_23 := (zf_ne eH1 (by decide)).trans h_23
  have fr := fr.put eH1 (by simp)
  have hk := zk_psh eH1 hk (zkc_o (by repeat (first | exact zB_n | refine zB_r (by omega) ?_ | refine zB_i ?_ | refine zB_l ?_ | refine zB_z ?_)))
  have fz : zFr [24] _ _ := zFr.put zFr.rf eH1 (List.mem_singleton.mpr rfl)
  refine v_dup dX5_init_8 rfl ?_
  refine v_cI (av := []) (st := [.ref 24, .ref 23]) zyX7_init lX5_9 (p_iWide (d := 1) h_24 (by decide) hk (by decide)) dX5_init_9 rfl rfl (Nat.le_of_ble_eq_true rfl) (by omega) (Nat.le_of_ble_eq_true rfl) (Nat.le_of_ble_eq_true rfl) (Or.inr ⟨by repeat (first | exact zB_n | refine zB_r (by omega) ?_ | refine zB_i ?_ | refine zB_l ?_ | refine zB_z ?_), by repeat (first | exact zB_n | refine zB_r (by omega) ?_ | refine zB_i ?_ | refine zB_l ?_ | refine zB_z ?_)⟩) (fun r9 G1 n9 q9 => ?_)
  obtain ⟨rfl, q9n, w24, hk, fr9⟩ := q9
  have q9n := q9n.symm
  subst q9n
  have h_23 := (fr9 23 (by decide)).trans h_23
  have fr := fr.tr fr9 (by decide)
  refine v_putF (fs' := [.ref 24, .null, .null, .int (iI (bz false))]) hX ffX5_10 dX5_init_12 h_23 (by decide) (Nat.le_of_ble_eq_true rfl) rfl rfl rfl (fun H2 eH2 => ?_)
  have h_23 : H2 23 = .inr (4, [.ref 24, .null, .null, .int (iI (bz false))]) := zf_same eH2
  have fr := fr.put eH2 (by simp)
  have hk := zk_put eH2 hk (zkc_o (by repeat (first | exact zB_n | refine zB_r (by omega) ?_ | refine zB_i ?_ | refine zB_l ?_ | refine zB_z ?_)))
  have fz : zFr [23] _ _ := zFr.put zFr.rf eH2 (List.mem_singleton.mpr rfl)
  have w24 := w24.fr fz (by decide) (by decide)
  refine v_aload_n dX5_init_15 rfl ?_
  refine v_new nX5_7 dX5_init_16 (Nat.le_of_ble_eq_true rfl) (Nat.le_of_ble_eq_true rfl) hk ⟨by repeat (first | exact zB_n | refine zB_r (by omega) ?_ | refine zB_i ?_ | refine zB_l ?_ | refine zB_z ?_), by repeat (first | exact zB_n | refine zB_r (by omega) ?_ | refine zB_i ?_ | refine zB_l ?_ | refine zB_z ?_)⟩ (fun H3 eH3 => ?_)
  have h_26 : H3 26 = .inr (6, [.null, .int (iI 0)]) := zf_same eH3
  have h_23 := (zf_ne eH3 (by decide)).trans h_23
  have fr := fr.put eH3 (by simp)
  have hk := zk_psh eH3 hk (zkc_o (by repeat (first | exact zB_n | refine zB_r (by omega) ?_ | refine zB_i ?_ | refine zB_l ?_ | refine zB_z ?_)))
  have fz : zFr [26] _ _ := zFr.put zFr.rf eH3 (List.mem_singleton.mpr rfl)
  have w24 := w24.fr fz (by decide) (by decide)
  refine v_dup dX5_init_19 rfl ?_
  refine v_cI (av := []) (st := [.ref 26, .ref 23]) zyX7_init lX5_9 (p_iWide (d := 1) h_26 (by decide) hk (by decide)) dX5_init_20 rfl rfl (Nat.le_of_ble_eq_true rfl) (by omega) (Nat.le_of_ble_eq_true rfl) (Nat.le_of_ble_eq_true rfl) (Or.inr ⟨by repeat (first | exact zB_n | refine zB_r (by omega) ?_ | refine zB_i ?_ | refine zB_l ?_ | refine zB_z ?_), by repeat (first | exact zB_n | refine zB_r (by omega) ?_ | refine zB_i ?_ | refine zB_l ?_ | refine zB_z ?_)⟩) (fun r9 G2 n9 q9 => ?_)
  obtain ⟨rfl, q9n, w26, hk, fr9⟩ := q9
  have q9n := q9n.symm
  subst q9n
  have h_23 := (fr9 23 (by decide)).trans h_23
  have w24 := w24.fr fr9 (by decide) (by decide)
  have fr := fr.tr fr9 (by decide)
  refine v_putF (fs' := [.ref 24, .ref 26, .null, .int (iI (bz false))]) hX ffX5_16 dX5_init_23 h_23 (by decide) (Nat.le_of_ble_eq_true rfl) rfl rfl rfl (fun H4 eH4 => ?_)
  have h_23 : H4 23 = .inr (4, [.ref 24, .ref 26, .null, .int (iI (bz false))]) := zf_same eH4
  have fr := fr.put eH4 (by simp)
  have hk := zk_put eH4 hk (zkc_o (by repeat (first | exact zB_n | refine zB_r (by omega) ?_ | refine zB_i ?_ | refine zB_l ?_ | refine zB_z ?_)))
  have fz : zFr [23] _ _ := zFr.put zFr.rf eH4 (List.mem_singleton.mpr rfl)
  have w24 := w24.fr fz (by decide) (by decide)
  have w26 := w26.fr fz (by decide) (by decide)
  refine v_aload_n dX5_init_26 rfl ?_
  refine v_new nX5_7 dX5_init_27 (Nat.le_of_ble_eq_true rfl) (Nat.le_of_ble_eq_true rfl) hk ⟨by repeat (first | exact zB_n | refine zB_r (by omega) ?_ | refine zB_i ?_ | refine zB_l ?_ | refine zB_z ?_), by repeat (first | exact zB_n | refine zB_r (by omega) ?_ | refine zB_i ?_ | refine zB_l ?_ | refine zB_z ?_)⟩ (fun H5 eH5 => ?_)
  have h_28 : H5 28 = .inr (6, [.null, .int (iI 0)]) := zf_same eH5
  have h_23 := (zf_ne eH5 (by decide)).trans h_23
  have fr := fr.put eH5 (by simp)
  have hk := zk_psh eH5 hk (zkc_o (by repeat (first | exact zB_n | refine zB_r (by omega) ?_ | refine zB_i ?_ | refine zB_l ?_ | refine zB_z ?_)))
  have fz : zFr [28] _ _ := zFr.put zFr.rf eH5 (List.mem_singleton.mpr rfl)
  have w24 := w24.fr fz (by decide) (by decide)
  have w26 := w26.fr fz (by decide) (by decide)
  refine v_dup dX5_init_30 rfl ?_
  refine v_cI (av := []) (st := [.ref 28, .ref 23]) zyX7_init lX5_9 (p_iWide (d := 1) h_28 (by decide) hk (by decide)) dX5_init_31 rfl rfl (Nat.le_of_ble_eq_true rfl) (by omega) (Nat.le_of_ble_eq_true rfl) (Nat.le_of_ble_eq_true rfl) (Or.inr ⟨by repeat (first | exact zB_n | refine zB_r (by omega) ?_ | refine zB_i ?_ | refine zB_l ?_ | refine zB_z ?_), by repeat (first | exact zB_n | refine zB_r (by omega) ?_ | refine zB_i ?_ | refine zB_l ?_ | refine zB_z ?_)⟩) (fun r9 G3 n9 q9 => ?_)
  obtain ⟨rfl, q9n, w28, hk, fr9⟩ := q9
  have q9n := q9n.symm
  subst q9n
  have h_23 := (fr9 23 (by decide)).trans h_23
  have w24 := w24.fr fr9 (by decide) (by decide)
  have w26 := w26.fr fr9 (by decide) (by decide)
  have fr := fr.tr fr9 (by decide)
  refine v_putF (fs' := [.ref 24, .ref 26, .ref 28, .int (iI (bz false))]) hX ffX5_19 dX5_init_34 h_23 (by decide) (Nat.le_of_ble_eq_true rfl) rfl rfl rfl (fun H6 eH6 => ?_)
  have h_23 : H6 23 = oSeeker 24 26 28 false := zf_same eH6
  have fr := fr.put eH6 (by simp)
  have hk := zk_put eH6 hk (zkc_o (by repeat (first | exact zB_n | refine zB_r (by omega) ?_ | refine zB_i ?_ | refine zB_l ?_ | refine zB_z ?_)))
  have fz : zFr [23] _ _ := zFr.put zFr.rf eH6 (List.mem_singleton.mpr rfl)
  have w24 := w24.fr fz (by decide) (by decide)
  have w26 := w26.fr fz (by decide) (by decide)
  have w28 := w28.fr fz (by decide) (by decide)
  exact v_vret dX5_init_37 trivial (Nat.le_of_ble_eq_true rfl) (Nat.le_of_ble_eq_true rfl) ⟨rfl, rfl, ⟨h_23, w24, w26, 0, w28⟩, hk, fr⟩
theorem SK.fr {h h' : zH} {F B : Nat} {mo : Bool} {S : List Nat} (q : SK h F B mo) (f : zFr S h h') (hs : ∀ x ∈ S, x < 23 ∨ 29 < x) : SK h' F B mo := by
  obtain ⟨h_23, hwF, hwB, t0, hwT⟩ := q
  have k : ∀ x, 23 ≤ x → x ≤ 29 → x ∉ S := fun x h1 h2 z => by have := hs x z; omega
  exact ⟨(f 23 (k 23 (by decide) (by decide))).trans h_23, hwF.fr f (k _ (by decide) (by decide)) (k _ (by decide) (by decide)), hwB.fr f (k _ (by decide) (by decide)) (k _ (by decide) (by decide)), t0, hwT.fr f (k _ (by decide) (by decide)) (k _ (by decide) (by decide))⟩
set_option maxHeartbeats 8000000 in
set_option maxRecDepth 100000 in
theorem p_iActs {d : Nat} {h : zH} (h_15 : h 15 = .inr (0, [.null, .null, .null, .null, .null])) (hk : zk h 16) (hd : 4 ≤ d) :
    zM yX0_init cX0_init 1 none d 14 116 [.ref 15] h 16 (fun r h' n' => r = none ∧ n' = 30 ∧ AC h' ∧ zk h' 30 ∧ zFr [15, 16, 17, 18, 19, 20, 21, 22, 23, 24, 25, 26, 27, 28, 29] h h') := by
  refine zM_of zyX0_init rfl (Nat.le_of_ble_eq_true rfl) (fun X hX => ?_)
  have fr : zFr [15, 16, 17, 18, 19, 20, 21, 22, 23, 24, 25, 26, 27, 28, 29] h h := zFr.rf
  refine v_aload_n dX0_init_0 rfl ?_
  refine v_objInit oX0_3 dX0_init_1 (by omega) (Nat.le_of_ble_eq_true rfl) ?_
  refine v_aload_n dX0_init_4 rfl ?_
  refine v_new nX0_1 dX0_init_5 (Nat.le_of_ble_eq_true rfl) (Nat.le_of_ble_eq_true rfl) hk ⟨by repeat (first | exact zB_n | refine zB_r (by omega) ?_ | refine zB_i ?_ | refine zB_l ?_ | refine zB_z ?_), by repeat (first | exact zB_n | refine zB_r (by omega) ?_ | refine zB_i ?_ | refine zB_l ?_ | refine zB_z ?_)⟩ (fun H1 eH1 => ?_)
  have h_16 : H1 16 = .inr (3, [.null, .int (iI (bz false))]) := zf_same eH1
  have h_15 := (zf_ne eH1 (by decide)).trans h_15
  have fr := fr.put eH1 (by simp)
  have hk := zk_psh eH1 hk (zkc_o (by repeat (first | exact zB_n | refine zB_r (by omega) ?_ | refine zB_i ?_ | refine zB_l ?_ | refine zB_z ?_)))
  have fz : zFr [16] _ _ := zFr.put zFr.rf eH1 (List.mem_singleton.mpr rfl)
  refine v_dup dX0_init_8 rfl ?_
  refine v_cI (av := []) (st := [.ref 16, .ref 15]) zyX3_init lX0_9 (p_iQuire (d := 3) h_16 (by decide) hk (by decide)) dX0_init_9 rfl rfl (Nat.le_of_ble_eq_true rfl) (by omega) (Nat.le_of_ble_eq_true rfl) (Nat.le_of_ble_eq_true rfl) (Or.inr ⟨by repeat (first | exact zB_n | refine zB_r (by omega) ?_ | refine zB_i ?_ | refine zB_l ?_ | refine zB_z ?_), by repeat (first | exact zB_n | refine zB_r (by omega) ?_ | refine zB_i ?_ | refine zB_l ?_ | refine zB_z ?_)⟩) (fun r9 G1 n9 q9 => ?_)
  obtain ⟨rfl, q9n, w16, hk, fr9⟩ := q9
  have q9n := q9n.symm
  subst q9n
  have h_15 := (fr9 15 (by decide)).trans h_15
  have fr := fr.tr fr9 (by decide)
  refine v_putF (fs' := [.ref 16, .null, .null, .null, .null]) hX ffX0_10 dX0_init_12 h_15 (by decide) (Nat.le_of_ble_eq_true rfl) rfl rfl rfl (fun H2 eH2 => ?_)
  have h_15 : H2 15 = .inr (0, [.ref 16, .null, .null, .null, .null]) := zf_same eH2
  have fr := fr.put eH2 (by simp)
  have hk := zk_put eH2 hk (zkc_o (by repeat (first | exact zB_n | refine zB_r (by omega) ?_ | refine zB_i ?_ | refine zB_l ?_ | refine zB_z ?_)))
  have fz : zFr [15] _ _ := zFr.put zFr.rf eH2 (List.mem_singleton.mpr rfl)
  have w16 := w16.fr fz (by decide) (by decide)
  refine v_aload_n dX0_init_15 rfl ?_
  refine v_new nX0_16 dX0_init_16 (Nat.le_of_ble_eq_true rfl) (Nat.le_of_ble_eq_true rfl) hk ⟨by repeat (first | exact zB_n | refine zB_r (by omega) ?_ | refine zB_i ?_ | refine zB_l ?_ | refine zB_z ?_), by repeat (first | exact zB_n | refine zB_r (by omega) ?_ | refine zB_i ?_ | refine zB_l ?_ | refine zB_z ?_)⟩ (fun H3 eH3 => ?_)
  have h_18 : H3 18 = oPosit false false 0 0 := zf_same eH3
  have h_15 := (zf_ne eH3 (by decide)).trans h_15
  have fr := fr.put eH3 (by simp)
  have hk := zk_psh eH3 hk (zkc_o (by repeat (first | exact zB_n | refine zB_r (by omega) ?_ | refine zB_i ?_ | refine zB_l ?_ | refine zB_z ?_)))
  have fz : zFr [18] _ _ := zFr.put zFr.rf eH3 (List.mem_singleton.mpr rfl)
  have w16 := w16.fr fz (by decide) (by decide)
  refine v_dup dX0_init_19 rfl ?_
  refine v_cI (av := []) (st := [.ref 18, .ref 15]) zyX2_init lX0_18 (p_iPosit (d := 3) (by decide)) dX0_init_20 rfl rfl (Nat.le_of_ble_eq_true rfl) (by omega) (Nat.le_of_ble_eq_true rfl) (Nat.le_of_ble_eq_true rfl) (Or.inl (fun _ _ _ q => ZN q)) (fun r9 K1 n9 q9 => ?_)
  obtain ⟨rfl, q9n, q9h⟩ := q9
  have q9n := q9n.symm
  subst q9n
  have q9h := q9h.symm
  subst q9h
  refine v_putF (fs' := [.ref 16, .ref 18, .null, .null, .null]) hX ffX0_19 dX0_init_23 h_15 (by decide) (Nat.le_of_ble_eq_true rfl) rfl rfl rfl (fun H4 eH4 => ?_)
  have h_15 : H4 15 = .inr (0, [.ref 16, .ref 18, .null, .null, .null]) := zf_same eH4
  have fr := fr.put eH4 (by simp)
  have hk := zk_put eH4 hk (zkc_o (by repeat (first | exact zB_n | refine zB_r (by omega) ?_ | refine zB_i ?_ | refine zB_l ?_ | refine zB_z ?_)))
  have fz : zFr [15] _ _ := zFr.put zFr.rf eH4 (List.mem_singleton.mpr rfl)
  have w16 := w16.fr fz (by decide) (by decide)
  have h_18 := (fz 18 (by decide)).trans h_18
  refine v_aload_n dX0_init_26 rfl ?_
  refine v_get fX0_19 dX0_init_27 h_15 (by decide) rfl ?_
  refine v_cV (av := []) (st := []) zyX2_loadOne lX0_23 h_18 rfl (p_loadOne (d := 3) h_18) dX0_init_30 rfl rfl (Nat.le_of_ble_eq_true rfl) (by omega) (Nat.le_of_ble_eq_true rfl) (Nat.le_of_ble_eq_true rfl) (Or.inl (fun _ _ _ q => ZN q)) (fun r9 G2 n9 q9 => ?_)
  obtain ⟨rfl, q9n, h_18, fr9⟩ := q9
  have q9n := q9n.symm
  subst q9n
  have hk := zk_f1 hk fr9 (by rw [h_18]; exact zkc_o (zB_i (zB_i (zB_l (zB_i zB_n)))))
  have h_15 := (fr9 15 (by decide)).trans h_15
  have w16 := w16.fr fr9 (by decide) (by decide)
  have fr := fr.tr fr9 (by decide)
  refine v_aload_n dX0_init_33 rfl ?_
  refine v_new nX0_26 dX0_init_34 (Nat.le_of_ble_eq_true rfl) (Nat.le_of_ble_eq_true rfl) hk ⟨by repeat (first | exact zB_n | refine zB_r (by omega) ?_ | refine zB_i ?_ | refine zB_l ?_ | refine zB_z ?_), by repeat (first | exact zB_n | refine zB_r (by omega) ?_ | refine zB_i ?_ | refine zB_l ?_ | refine zB_z ?_)⟩ (fun H5 eH5 => ?_)
  have h_19 : H5 19 = .inr (6, [.null, .int (iI 0)]) := zf_same eH5
  have h_15 := (zf_ne eH5 (by decide)).trans h_15
  have fr := fr.put eH5 (by simp)
  have hk := zk_psh eH5 hk (zkc_o (by repeat (first | exact zB_n | refine zB_r (by omega) ?_ | refine zB_i ?_ | refine zB_l ?_ | refine zB_z ?_)))
  have fz : zFr [19] _ _ := zFr.put zFr.rf eH5 (List.mem_singleton.mpr rfl)
  have w16 := w16.fr fz (by decide) (by decide)
  have h_18 := (fz 18 (by decide)).trans h_18
  refine v_dup dX0_init_37 rfl ?_
  refine v_cI (av := []) (st := [.ref 19, .ref 15]) zyX7_init lX0_28 (p_iWide (d := 3) h_19 (by decide) hk (by decide)) dX0_init_38 rfl rfl (Nat.le_of_ble_eq_true rfl) (by omega) (Nat.le_of_ble_eq_true rfl) (Nat.le_of_ble_eq_true rfl) (Or.inr ⟨by repeat (first | exact zB_n | refine zB_r (by omega) ?_ | refine zB_i ?_ | refine zB_l ?_ | refine zB_z ?_), by repeat (first | exact zB_n | refine zB_r (by omega) ?_ | refine zB_i ?_ | refine zB_l ?_ | refine zB_z ?_)⟩) (fun r9 G3 n9 q9 => ?_)
  obtain ⟨rfl, q9n, w19, hk, fr9⟩ := q9
  have q9n := q9n.symm
  subst q9n
  have h_15 := (fr9 15 (by decide)).trans h_15
  have w16 := w16.fr fr9 (by decide) (by decide)
  have h_18 := (fr9 18 (by decide)).trans h_18
  have fr := fr.tr fr9 (by decide)
  refine v_putF (fs' := [.ref 16, .ref 18, .ref 19, .null, .null]) hX ffX0_29 dX0_init_41 h_15 (by decide) (Nat.le_of_ble_eq_true rfl) rfl rfl rfl (fun H6 eH6 => ?_)
  have h_15 : H6 15 = .inr (0, [.ref 16, .ref 18, .ref 19, .null, .null]) := zf_same eH6
  have fr := fr.put eH6 (by simp)
  have hk := zk_put eH6 hk (zkc_o (by repeat (first | exact zB_n | refine zB_r (by omega) ?_ | refine zB_i ?_ | refine zB_l ?_ | refine zB_z ?_)))
  have fz : zFr [15] _ _ := zFr.put zFr.rf eH6 (List.mem_singleton.mpr rfl)
  have w16 := w16.fr fz (by decide) (by decide)
  have h_18 := (fz 18 (by decide)).trans h_18
  have w19 := w19.fr fz (by decide) (by decide)
  refine v_aload_n dX0_init_44 rfl ?_
  refine v_new nX0_26 dX0_init_45 (Nat.le_of_ble_eq_true rfl) (Nat.le_of_ble_eq_true rfl) hk ⟨by repeat (first | exact zB_n | refine zB_r (by omega) ?_ | refine zB_i ?_ | refine zB_l ?_ | refine zB_z ?_), by repeat (first | exact zB_n | refine zB_r (by omega) ?_ | refine zB_i ?_ | refine zB_l ?_ | refine zB_z ?_)⟩ (fun H7 eH7 => ?_)
  have h_21 : H7 21 = .inr (6, [.null, .int (iI 0)]) := zf_same eH7
  have h_15 := (zf_ne eH7 (by decide)).trans h_15
  have fr := fr.put eH7 (by simp)
  have hk := zk_psh eH7 hk (zkc_o (by repeat (first | exact zB_n | refine zB_r (by omega) ?_ | refine zB_i ?_ | refine zB_l ?_ | refine zB_z ?_)))
  have fz : zFr [21] _ _ := zFr.put zFr.rf eH7 (List.mem_singleton.mpr rfl)
  have w16 := w16.fr fz (by decide) (by decide)
  have h_18 := (fz 18 (by decide)).trans h_18
  have w19 := w19.fr fz (by decide) (by decide)
  refine v_dup dX0_init_48 rfl ?_
  refine v_cI (av := []) (st := [.ref 21, .ref 15]) zyX7_init lX0_28 (p_iWide (d := 3) h_21 (by decide) hk (by decide)) dX0_init_49 rfl rfl (Nat.le_of_ble_eq_true rfl) (by omega) (Nat.le_of_ble_eq_true rfl) (Nat.le_of_ble_eq_true rfl) (Or.inr ⟨by repeat (first | exact zB_n | refine zB_r (by omega) ?_ | refine zB_i ?_ | refine zB_l ?_ | refine zB_z ?_), by repeat (first | exact zB_n | refine zB_r (by omega) ?_ | refine zB_i ?_ | refine zB_l ?_ | refine zB_z ?_)⟩) (fun r9 G4 n9 q9 => ?_)
  obtain ⟨rfl, q9n, w21, hk, fr9⟩ := q9
  have q9n := q9n.symm
  subst q9n
  have h_15 := (fr9 15 (by decide)).trans h_15
  have w16 := w16.fr fr9 (by decide) (by decide)
  have h_18 := (fr9 18 (by decide)).trans h_18
  have w19 := w19.fr fr9 (by decide) (by decide)
  have fr := fr.tr fr9 (by decide)
  refine v_putF (fs' := [.ref 16, .ref 18, .ref 19, .ref 21, .null]) hX ffX0_33 dX0_init_52 h_15 (by decide) (Nat.le_of_ble_eq_true rfl) rfl rfl rfl (fun H8 eH8 => ?_)
  have h_15 : H8 15 = .inr (0, [.ref 16, .ref 18, .ref 19, .ref 21, .null]) := zf_same eH8
  have fr := fr.put eH8 (by simp)
  have hk := zk_put eH8 hk (zkc_o (by repeat (first | exact zB_n | refine zB_r (by omega) ?_ | refine zB_i ?_ | refine zB_l ?_ | refine zB_z ?_)))
  have fz : zFr [15] _ _ := zFr.put zFr.rf eH8 (List.mem_singleton.mpr rfl)
  have w16 := w16.fr fz (by decide) (by decide)
  have h_18 := (fz 18 (by decide)).trans h_18
  have w19 := w19.fr fz (by decide) (by decide)
  have w21 := w21.fr fz (by decide) (by decide)
  refine v_aload_n dX0_init_55 rfl ?_
  refine v_new nX0_36 dX0_init_56 (Nat.le_of_ble_eq_true rfl) (Nat.le_of_ble_eq_true rfl) hk ⟨by repeat (first | exact zB_n | refine zB_r (by omega) ?_ | refine zB_i ?_ | refine zB_l ?_ | refine zB_z ?_), by repeat (first | exact zB_n | refine zB_r (by omega) ?_ | refine zB_i ?_ | refine zB_l ?_ | refine zB_z ?_)⟩ (fun H9 eH9 => ?_)
  have h_23 : H9 23 = .inr (4, [.null, .null, .null, .int (iI (bz false))]) := zf_same eH9
  have h_15 := (zf_ne eH9 (by decide)).trans h_15
  have fr := fr.put eH9 (by simp)
  have hk := zk_psh eH9 hk (zkc_o (by repeat (first | exact zB_n | refine zB_r (by omega) ?_ | refine zB_i ?_ | refine zB_l ?_ | refine zB_z ?_)))
  have fz : zFr [23] _ _ := zFr.put zFr.rf eH9 (List.mem_singleton.mpr rfl)
  have w16 := w16.fr fz (by decide) (by decide)
  have h_18 := (fz 18 (by decide)).trans h_18
  have w19 := w19.fr fz (by decide) (by decide)
  have w21 := w21.fr fz (by decide) (by decide)
  refine v_dup dX0_init_59 rfl ?_
  refine v_cI (av := []) (st := [.ref 23, .ref 15]) zyX5_init lX0_38 (p_iSeeker (d := 3) h_23 hk (by decide)) dX0_init_60 rfl rfl (Nat.le_of_ble_eq_true rfl) (by omega) (Nat.le_of_ble_eq_true rfl) (Nat.le_of_ble_eq_true rfl) (Or.inr ⟨by repeat (first | exact zB_n | refine zB_r (by omega) ?_ | refine zB_i ?_ | refine zB_l ?_ | refine zB_z ?_), by repeat (first | exact zB_n | refine zB_r (by omega) ?_ | refine zB_i ?_ | refine zB_l ?_ | refine zB_z ?_)⟩) (fun r9 G5 n9 q9 => ?_)
  obtain ⟨rfl, q9n, sk, hk, fr9⟩ := q9
  have q9n := q9n.symm
  subst q9n
  have h_15 := (fr9 15 (by decide)).trans h_15
  have w16 := w16.fr fr9 (by decide) (by decide)
  have h_18 := (fr9 18 (by decide)).trans h_18
  have w19 := w19.fr fr9 (by decide) (by decide)
  have w21 := w21.fr fr9 (by decide) (by decide)
  have fr := fr.tr fr9 (by decide)
  refine v_putF (fs' := [.ref 16, .ref 18, .ref 19, .ref 21, .ref 23]) hX ffX0_39 dX0_init_63 h_15 (by decide) (Nat.le_of_ble_eq_true rfl) rfl rfl rfl (fun H10 eH10 => ?_)
  have h_15 : H10 15 = oActs 16 18 19 21 23 := zf_same eH10
  have fr := fr.put eH10 (by simp)
  have hk := zk_put eH10 hk (zkc_o (by repeat (first | exact zB_n | refine zB_r (by omega) ?_ | refine zB_i ?_ | refine zB_l ?_ | refine zB_z ?_)))
  have fz : zFr [15] _ _ := zFr.put zFr.rf eH10 (List.mem_singleton.mpr rfl)
  have w16 := w16.fr fz (by decide) (by decide)
  have h_18 := (fz 18 (by decide)).trans h_18
  have w19 := w19.fr fz (by decide) (by decide)
  have w21 := w21.fr fz (by decide) (by decide)
  have sk := sk.fr fz (by decide)
  exact v_vret dX0_init_66 trivial (Nat.le_of_ble_eq_true rfl) (Nat.le_of_ble_eq_true rfl) ⟨rfl, rfl, ⟨h_15, ⟨false, 0, w16⟩, h_18, ⟨0, w19⟩, ⟨0, w21⟩, 0, 0, false, sk⟩, hk, fr⟩
set_option maxHeartbeats 8000000 in
set_option maxRecDepth 100000 in
theorem p_iTape {d : Nat} {h : zH} (h_30 : h 30 = .inr (5, [.null, .int (iI 0), .null, .int (iI 0), .int (iI 0), .int (iI 0), .int (iI (bz false)), .int (iI (bz false))])) (hk : zk h 31) (hd : 4 ≤ d) :
    zM yX6_init cX6_init 1 none d 3 98 [.ref 30] h 31 (fun r h' n' => r = none ∧ n' = 34 ∧ TPx h' (fun _ => 0) 0 ∧ zk h' 34 ∧ zFr [30, 31, 32, 33] h h') := by
  refine zM_of zyX6_init rfl (Nat.le_of_ble_eq_true rfl) (fun X hX => ?_)
  have fr : zFr [30, 31, 32, 33] h h := zFr.rf
  refine v_aload_n dX6_init_0 rfl ?_
  refine v_objInit oX6_1 dX6_init_1 (by omega) (Nat.le_of_ble_eq_true rfl) ?_
  refine v_aload_n dX6_init_4 rfl ?_
  refine v_bipush (iI 80) dX6_init_5 rfl ?_
  refine v_newa (ty := .int) (a0 := (80, .inl (fun _ => iI ((0 : Nat) : Int)))) (N := 80) ac_int rfl (fun _ => rfl) (fun _ => rfl) (by decide) rfl (by decide) dX6_init_7 (Nat.le_of_ble_eq_true rfl) (Nat.le_of_ble_eq_true rfl) hk ⟨by repeat (first | exact zB_n | refine zB_r (by omega) ?_ | refine zB_i ?_ | refine zB_l ?_ | refine zB_z ?_), by repeat (first | exact zB_n | refine zB_r (by omega) ?_ | refine zB_i ?_ | refine zB_l ?_ | refine zB_z ?_)⟩ (fun H1 eH1 => ?_)
  have h_31 : H1 31 = aN 80 (fun _ => 0) := zf_same eH1
  have h_30 := (zf_ne eH1 (by decide)).trans h_30
  have fr := fr.put eH1 (by simp)
  have hk := zk_psh eH1 hk zkc_i
  have fz : zFr [31] _ _ := zFr.put zFr.rf eH1 (List.mem_singleton.mpr rfl)
  refine v_putF (fs' := [.ref 31, .int (iI 0), .null, .int (iI 0), .int (iI 0), .int (iI 0), .int (iI (bz false)), .int (iI (bz false))]) hX ffX6_9 dX6_init_9 h_30 (by decide) (Nat.le_of_ble_eq_true rfl) rfl rfl rfl (fun H2 eH2 => ?_)
  have h_30 : H2 30 = .inr (5, [.ref 31, .int (iI 0), .null, .int (iI 0), .int (iI 0), .int (iI 0), .int (iI (bz false)), .int (iI (bz false))]) := zf_same eH2
  have fr := fr.put eH2 (by simp)
  have hk := zk_put eH2 hk (zkc_o (by repeat (first | exact zB_n | refine zB_r (by omega) ?_ | refine zB_i ?_ | refine zB_l ?_ | refine zB_z ?_)))
  have fz : zFr [30] _ _ := zFr.put zFr.rf eH2 (List.mem_singleton.mpr rfl)
  have h_31 := (fz 31 (by decide)).trans h_31
  refine v_aload_n dX6_init_12 rfl ?_
  refine v_new nX6_13 dX6_init_13 (Nat.le_of_ble_eq_true rfl) (Nat.le_of_ble_eq_true rfl) hk ⟨by repeat (first | exact zB_n | refine zB_r (by omega) ?_ | refine zB_i ?_ | refine zB_l ?_ | refine zB_z ?_), by repeat (first | exact zB_n | refine zB_r (by omega) ?_ | refine zB_i ?_ | refine zB_l ?_ | refine zB_z ?_)⟩ (fun H3 eH3 => ?_)
  have h_32 : H3 32 = .inr (6, [.null, .int (iI 0)]) := zf_same eH3
  have h_30 := (zf_ne eH3 (by decide)).trans h_30
  have fr := fr.put eH3 (by simp)
  have hk := zk_psh eH3 hk (zkc_o (by repeat (first | exact zB_n | refine zB_r (by omega) ?_ | refine zB_i ?_ | refine zB_l ?_ | refine zB_z ?_)))
  have fz : zFr [32] _ _ := zFr.put zFr.rf eH3 (List.mem_singleton.mpr rfl)
  have h_31 := (fz 31 (by decide)).trans h_31
  refine v_dup dX6_init_16 rfl ?_
  refine v_cI (av := []) (st := [.ref 32, .ref 30]) zyX7_init lX6_15 (p_iWide (d := 3) h_32 (by decide) hk (by decide)) dX6_init_17 rfl rfl (Nat.le_of_ble_eq_true rfl) (by omega) (Nat.le_of_ble_eq_true rfl) (Nat.le_of_ble_eq_true rfl) (Or.inr ⟨by repeat (first | exact zB_n | refine zB_r (by omega) ?_ | refine zB_i ?_ | refine zB_l ?_ | refine zB_z ?_), by repeat (first | exact zB_n | refine zB_r (by omega) ?_ | refine zB_i ?_ | refine zB_l ?_ | refine zB_z ?_)⟩) (fun r9 G1 n9 q9 => ?_)
  obtain ⟨rfl, q9n, w32, hk, fr9⟩ := q9
  have q9n := q9n.symm
  subst q9n
  have h_30 := (fr9 30 (by decide)).trans h_30
  have h_31 := (fr9 31 (by decide)).trans h_31
  have fr := fr.tr fr9 (by decide)
  refine v_putF (fs' := [.ref 31, .int (iI 0), .ref 32, .int (iI 0), .int (iI 0), .int (iI 0), .int (iI (bz false)), .int (iI (bz false))]) hX ffX6_16 dX6_init_20 h_30 (by decide) (Nat.le_of_ble_eq_true rfl) rfl rfl rfl (fun H4 eH4 => ?_)
  have h_30 : H4 30 = oTape 31 0 32 0 0 0 false false := zf_same eH4
  have fr := fr.put eH4 (by simp)
  have hk := zk_put eH4 hk (zkc_o (by repeat (first | exact zB_n | refine zB_r (by omega) ?_ | refine zB_i ?_ | refine zB_l ?_ | refine zB_z ?_)))
  have fz : zFr [30] _ _ := zFr.put zFr.rf eH4 (List.mem_singleton.mpr rfl)
  have h_31 := (fz 31 (by decide)).trans h_31
  have w32 := w32.fr fz (by decide) (by decide)
  exact v_vret dX6_init_23 trivial (Nat.le_of_ble_eq_true rfl) (Nat.le_of_ble_eq_true rfl) ⟨rfl, rfl, ⟨0, 0, 0, false, false, 0, h_30, h_31, w32⟩, hk, fr⟩
set_option maxHeartbeats 8000000 in
set_option maxRecDepth 100000 in
theorem p_iPage {d : Nat} {h : zH} (h_34 : h 34 = .inr (1, [.null, .null, .null, .null, .null, .null, .null, .int (iI (bz false)), .int (iI (bz false)), .int (iI (bz false)), .int (iI 0), .int (iI 0)])) (hk : zk h 35) (hd : 4 ≤ d) :
    zM yX1_init cX1_init 1 none d 12 254 [.ref 34] h 35 (fun r h' n' => r = none ∧ n' = 47 ∧ PG h' [] ∧ zk h' 47 ∧ zFr [34, 35, 36, 37, 38, 39, 40, 41, 42, 43, 44, 45, 46] h h') := by
  refine zM_of zyX1_init rfl (Nat.le_of_ble_eq_true rfl) (fun X hX => ?_)
  have fr : zFr [34, 35, 36, 37, 38, 39, 40, 41, 42, 43, 44, 45, 46] h h := zFr.rf
  refine v_aload_n dX1_init_0 rfl ?_
  refine v_objInit oX1_1 dX1_init_1 (by omega) (Nat.le_of_ble_eq_true rfl) ?_
  refine v_aload_n dX1_init_4 rfl ?_
  refine v_sipush (iI 160) dX1_init_5 rfl ?_
  refine v_newa (ty := .int) (a0 := (160, .inl (fun _ => iI ((0 : Nat) : Int)))) (N := 160) ac_int rfl (fun _ => rfl) (fun _ => rfl) (by decide) rfl (by decide) dX1_init_8 (Nat.le_of_ble_eq_true rfl) (Nat.le_of_ble_eq_true rfl) hk ⟨by repeat (first | exact zB_n | refine zB_r (by omega) ?_ | refine zB_i ?_ | refine zB_l ?_ | refine zB_z ?_), by repeat (first | exact zB_n | refine zB_r (by omega) ?_ | refine zB_i ?_ | refine zB_l ?_ | refine zB_z ?_)⟩ (fun H1 eH1 => ?_)
  have h_35 : H1 35 = aN 160 (fun _ => 0) := zf_same eH1
  have h_34 := (zf_ne eH1 (by decide)).trans h_34
  have fr := fr.put eH1 (by simp)
  have hk := zk_psh eH1 hk zkc_i
  have fz : zFr [35] _ _ := zFr.put zFr.rf eH1 (List.mem_singleton.mpr rfl)
  refine v_putF (fs' := [.ref 35, .null, .null, .null, .null, .null, .null, .int (iI (bz false)), .int (iI (bz false)), .int (iI (bz false)), .int (iI 0), .int (iI 0)]) hX ffX1_9 dX1_init_10 h_34 (by decide) (Nat.le_of_ble_eq_true rfl) rfl rfl rfl (fun H2 eH2 => ?_)
  have h_34 : H2 34 = .inr (1, [.ref 35, .null, .null, .null, .null, .null, .null, .int (iI (bz false)), .int (iI (bz false)), .int (iI (bz false)), .int (iI 0), .int (iI 0)]) := zf_same eH2
  have fr := fr.put eH2 (by simp)
  have hk := zk_put eH2 hk (zkc_o (by repeat (first | exact zB_n | refine zB_r (by omega) ?_ | refine zB_i ?_ | refine zB_l ?_ | refine zB_z ?_)))
  have fz : zFr [34] _ _ := zFr.put zFr.rf eH2 (List.mem_singleton.mpr rfl)
  have h_35 := (fz 35 (by decide)).trans h_35
  refine v_aload_n dX1_init_13 rfl ?_
  refine v_new nX1_13 dX1_init_14 (Nat.le_of_ble_eq_true rfl) (Nat.le_of_ble_eq_true rfl) hk ⟨by repeat (first | exact zB_n | refine zB_r (by omega) ?_ | refine zB_i ?_ | refine zB_l ?_ | refine zB_z ?_), by repeat (first | exact zB_n | refine zB_r (by omega) ?_ | refine zB_i ?_ | refine zB_l ?_ | refine zB_z ?_)⟩ (fun H3 eH3 => ?_)
  have h_36 : H3 36 = oPosit false false 0 0 := zf_same eH3
  have h_34 := (zf_ne eH3 (by decide)).trans h_34
  have fr := fr.put eH3 (by simp)
  have hk := zk_psh eH3 hk (zkc_o (by repeat (first | exact zB_n | refine zB_r (by omega) ?_ | refine zB_i ?_ | refine zB_l ?_ | refine zB_z ?_)))
  have fz : zFr [36] _ _ := zFr.put zFr.rf eH3 (List.mem_singleton.mpr rfl)
  have h_35 := (fz 35 (by decide)).trans h_35
  refine v_dup dX1_init_17 rfl ?_
  refine v_cI (av := []) (st := [.ref 36, .ref 34]) zyX2_init lX1_15 (p_iPosit (d := 3) (by decide)) dX1_init_18 rfl rfl (Nat.le_of_ble_eq_true rfl) (by omega) (Nat.le_of_ble_eq_true rfl) (Nat.le_of_ble_eq_true rfl) (Or.inl (fun _ _ _ q => ZN q)) (fun r9 K1 n9 q9 => ?_)
  obtain ⟨rfl, q9n, q9h⟩ := q9
  have q9n := q9n.symm
  subst q9n
  have q9h := q9h.symm
  subst q9h
  refine v_putF (fs' := [.ref 35, .ref 36, .null, .null, .null, .null, .null, .int (iI (bz false)), .int (iI (bz false)), .int (iI (bz false)), .int (iI 0), .int (iI 0)]) hX ffX1_16 dX1_init_21 h_34 (by decide) (Nat.le_of_ble_eq_true rfl) rfl rfl rfl (fun H4 eH4 => ?_)
  have h_34 : H4 34 = .inr (1, [.ref 35, .ref 36, .null, .null, .null, .null, .null, .int (iI (bz false)), .int (iI (bz false)), .int (iI (bz false)), .int (iI 0), .int (iI 0)]) := zf_same eH4
  have fr := fr.put eH4 (by simp)
  have hk := zk_put eH4 hk (zkc_o (by repeat (first | exact zB_n | refine zB_r (by omega) ?_ | refine zB_i ?_ | refine zB_l ?_ | refine zB_z ?_)))
  have fz : zFr [34] _ _ := zFr.put zFr.rf eH4 (List.mem_singleton.mpr rfl)
  have h_35 := (fz 35 (by decide)).trans h_35
  have h_36 := (fz 36 (by decide)).trans h_36
  refine v_aload_n dX1_init_24 rfl ?_
  refine v_new nX1_20 dX1_init_25 (Nat.le_of_ble_eq_true rfl) (Nat.le_of_ble_eq_true rfl) hk ⟨by repeat (first | exact zB_n | refine zB_r (by omega) ?_ | refine zB_i ?_ | refine zB_l ?_ | refine zB_z ?_), by repeat (first | exact zB_n | refine zB_r (by omega) ?_ | refine zB_i ?_ | refine zB_l ?_ | refine zB_z ?_)⟩ (fun H5 eH5 => ?_)
  have h_37 : H5 37 = .inr (6, [.null, .int (iI 0)]) := zf_same eH5
  have h_34 := (zf_ne eH5 (by decide)).trans h_34
  have fr := fr.put eH5 (by simp)
  have hk := zk_psh eH5 hk (zkc_o (by repeat (first | exact zB_n | refine zB_r (by omega) ?_ | refine zB_i ?_ | refine zB_l ?_ | refine zB_z ?_)))
  have fz : zFr [37] _ _ := zFr.put zFr.rf eH5 (List.mem_singleton.mpr rfl)
  have h_35 := (fz 35 (by decide)).trans h_35
  have h_36 := (fz 36 (by decide)).trans h_36
  refine v_dup dX1_init_28 rfl ?_
  refine v_cI (av := []) (st := [.ref 37, .ref 34]) zyX7_init lX1_22 (p_iWide (d := 3) h_37 (by decide) hk (by decide)) dX1_init_29 rfl rfl (Nat.le_of_ble_eq_true rfl) (by omega) (Nat.le_of_ble_eq_true rfl) (Nat.le_of_ble_eq_true rfl) (Or.inr ⟨by repeat (first | exact zB_n | refine zB_r (by omega) ?_ | refine zB_i ?_ | refine zB_l ?_ | refine zB_z ?_), by repeat (first | exact zB_n | refine zB_r (by omega) ?_ | refine zB_i ?_ | refine zB_l ?_ | refine zB_z ?_)⟩) (fun r9 G1 n9 q9 => ?_)
  obtain ⟨rfl, q9n, w37, hk, fr9⟩ := q9
  have q9n := q9n.symm
  subst q9n
  have h_34 := (fr9 34 (by decide)).trans h_34
  have h_35 := (fr9 35 (by decide)).trans h_35
  have h_36 := (fr9 36 (by decide)).trans h_36
  have fr := fr.tr fr9 (by decide)
  refine v_putF (fs' := [.ref 35, .ref 36, .ref 37, .null, .null, .null, .null, .int (iI (bz false)), .int (iI (bz false)), .int (iI (bz false)), .int (iI 0), .int (iI 0)]) hX ffX1_23 dX1_init_32 h_34 (by decide) (Nat.le_of_ble_eq_true rfl) rfl rfl rfl (fun H6 eH6 => ?_)
  have h_34 : H6 34 = .inr (1, [.ref 35, .ref 36, .ref 37, .null, .null, .null, .null, .int (iI (bz false)), .int (iI (bz false)), .int (iI (bz false)), .int (iI 0), .int (iI 0)]) := zf_same eH6
  have fr := fr.put eH6 (by simp)
  have hk := zk_put eH6 hk (zkc_o (by repeat (first | exact zB_n | refine zB_r (by omega) ?_ | refine zB_i ?_ | refine zB_l ?_ | refine zB_z ?_)))
  have fz : zFr [34] _ _ := zFr.put zFr.rf eH6 (List.mem_singleton.mpr rfl)
  have h_35 := (fz 35 (by decide)).trans h_35
  have h_36 := (fz 36 (by decide)).trans h_36
  have w37 := w37.fr fz (by decide) (by decide)
  refine v_aload_n dX1_init_35 rfl ?_
  refine v_new nX1_20 dX1_init_36 (Nat.le_of_ble_eq_true rfl) (Nat.le_of_ble_eq_true rfl) hk ⟨by repeat (first | exact zB_n | refine zB_r (by omega) ?_ | refine zB_i ?_ | refine zB_l ?_ | refine zB_z ?_), by repeat (first | exact zB_n | refine zB_r (by omega) ?_ | refine zB_i ?_ | refine zB_l ?_ | refine zB_z ?_)⟩ (fun H7 eH7 => ?_)
  have h_39 : H7 39 = .inr (6, [.null, .int (iI 0)]) := zf_same eH7
  have h_34 := (zf_ne eH7 (by decide)).trans h_34
  have fr := fr.put eH7 (by simp)
  have hk := zk_psh eH7 hk (zkc_o (by repeat (first | exact zB_n | refine zB_r (by omega) ?_ | refine zB_i ?_ | refine zB_l ?_ | refine zB_z ?_)))
  have fz : zFr [39] _ _ := zFr.put zFr.rf eH7 (List.mem_singleton.mpr rfl)
  have h_35 := (fz 35 (by decide)).trans h_35
  have h_36 := (fz 36 (by decide)).trans h_36
  have w37 := w37.fr fz (by decide) (by decide)
  refine v_dup dX1_init_39 rfl ?_
  refine v_cI (av := []) (st := [.ref 39, .ref 34]) zyX7_init lX1_22 (p_iWide (d := 3) h_39 (by decide) hk (by decide)) dX1_init_40 rfl rfl (Nat.le_of_ble_eq_true rfl) (by omega) (Nat.le_of_ble_eq_true rfl) (Nat.le_of_ble_eq_true rfl) (Or.inr ⟨by repeat (first | exact zB_n | refine zB_r (by omega) ?_ | refine zB_i ?_ | refine zB_l ?_ | refine zB_z ?_), by repeat (first | exact zB_n | refine zB_r (by omega) ?_ | refine zB_i ?_ | refine zB_l ?_ | refine zB_z ?_)⟩) (fun r9 G2 n9 q9 => ?_)
  obtain ⟨rfl, q9n, w39, hk, fr9⟩ := q9
  have q9n := q9n.symm
  subst q9n
  have h_34 := (fr9 34 (by decide)).trans h_34
  have h_35 := (fr9 35 (by decide)).trans h_35
  have h_36 := (fr9 36 (by decide)).trans h_36
  have w37 := w37.fr fr9 (by decide) (by decide)
  have fr := fr.tr fr9 (by decide)
  refine v_putF (fs' := [.ref 35, .ref 36, .ref 37, .ref 39, .null, .null, .null, .int (iI (bz false)), .int (iI (bz false)), .int (iI (bz false)), .int (iI 0), .int (iI 0)]) hX ffX1_27 dX1_init_43 h_34 (by decide) (Nat.le_of_ble_eq_true rfl) rfl rfl rfl (fun H8 eH8 => ?_)
  have h_34 : H8 34 = .inr (1, [.ref 35, .ref 36, .ref 37, .ref 39, .null, .null, .null, .int (iI (bz false)), .int (iI (bz false)), .int (iI (bz false)), .int (iI 0), .int (iI 0)]) := zf_same eH8
  have fr := fr.put eH8 (by simp)
  have hk := zk_put eH8 hk (zkc_o (by repeat (first | exact zB_n | refine zB_r (by omega) ?_ | refine zB_i ?_ | refine zB_l ?_ | refine zB_z ?_)))
  have fz : zFr [34] _ _ := zFr.put zFr.rf eH8 (List.mem_singleton.mpr rfl)
  have h_35 := (fz 35 (by decide)).trans h_35
  have h_36 := (fz 36 (by decide)).trans h_36
  have w37 := w37.fr fz (by decide) (by decide)
  have w39 := w39.fr fz (by decide) (by decide)
  refine v_aload_n dX1_init_46 rfl ?_
  refine v_new nX1_20 dX1_init_47 (Nat.le_of_ble_eq_true rfl) (Nat.le_of_ble_eq_true rfl) hk ⟨by repeat (first | exact zB_n | refine zB_r (by omega) ?_ | refine zB_i ?_ | refine zB_l ?_ | refine zB_z ?_), by repeat (first | exact zB_n | refine zB_r (by omega) ?_ | refine zB_i ?_ | refine zB_l ?_ | refine zB_z ?_)⟩ (fun H9 eH9 => ?_)
  have h_41 : H9 41 = .inr (6, [.null, .int (iI 0)]) := zf_same eH9
  have h_34 := (zf_ne eH9 (by decide)).trans h_34
  have fr := fr.put eH9 (by simp)
  have hk := zk_psh eH9 hk (zkc_o (by repeat (first | exact zB_n | refine zB_r (by omega) ?_ | refine zB_i ?_ | refine zB_l ?_ | refine zB_z ?_)))
  have fz : zFr [41] _ _ := zFr.put zFr.rf eH9 (List.mem_singleton.mpr rfl)
  have h_35 := (fz 35 (by decide)).trans h_35
  have h_36 := (fz 36 (by decide)).trans h_36
  have w37 := w37.fr fz (by decide) (by decide)
  have w39 := w39.fr fz (by decide) (by decide)
  refine v_dup dX1_init_50 rfl ?_
  refine v_cI (av := []) (st := [.ref 41, .ref 34]) zyX7_init lX1_22 (p_iWide (d := 3) h_41 (by decide) hk (by decide)) dX1_init_51 rfl rfl (Nat.le_of_ble_eq_true rfl) (by omega) (Nat.le_of_ble_eq_true rfl) (Nat.le_of_ble_eq_true rfl) (Or.inr ⟨by repeat (first | exact zB_n | refine zB_r (by omega) ?_ | refine zB_i ?_ | refine zB_l ?_ | refine zB_z ?_), by repeat (first | exact zB_n | refine zB_r (by omega) ?_ | refine zB_i ?_ | refine zB_l ?_ | refine zB_z ?_)⟩) (fun r9 G3 n9 q9 => ?_)
  obtain ⟨rfl, q9n, w41, hk, fr9⟩ := q9
  have q9n := q9n.symm
  subst q9n
  have h_34 := (fr9 34 (by decide)).trans h_34
  have h_35 := (fr9 35 (by decide)).trans h_35
  have h_36 := (fr9 36 (by decide)).trans h_36
  have w37 := w37.fr fr9 (by decide) (by decide)
  have w39 := w39.fr fr9 (by decide) (by decide)
  have fr := fr.tr fr9 (by decide)
  refine v_putF (fs' := [.ref 35, .ref 36, .ref 37, .ref 39, .ref 41, .null, .null, .int (iI (bz false)), .int (iI (bz false)), .int (iI (bz false)), .int (iI 0), .int (iI 0)]) hX ffX1_30 dX1_init_54 h_34 (by decide) (Nat.le_of_ble_eq_true rfl) rfl rfl rfl (fun H10 eH10 => ?_)
  have h_34 : H10 34 = .inr (1, [.ref 35, .ref 36, .ref 37, .ref 39, .ref 41, .null, .null, .int (iI (bz false)), .int (iI (bz false)), .int (iI (bz false)), .int (iI 0), .int (iI 0)]) := zf_same eH10
  have fr := fr.put eH10 (by simp)
  have hk := zk_put eH10 hk (zkc_o (by repeat (first | exact zB_n | refine zB_r (by omega) ?_ | refine zB_i ?_ | refine zB_l ?_ | refine zB_z ?_)))
  have fz : zFr [34] _ _ := zFr.put zFr.rf eH10 (List.mem_singleton.mpr rfl)
  have h_35 := (fz 35 (by decide)).trans h_35
  have h_36 := (fz 36 (by decide)).trans h_36
  have w37 := w37.fr fz (by decide) (by decide)
  have w39 := w39.fr fz (by decide) (by decide)
  have w41 := w41.fr fz (by decide) (by decide)
  refine v_aload_n dX1_init_57 rfl ?_
  refine v_new nX1_20 dX1_init_58 (Nat.le_of_ble_eq_true rfl) (Nat.le_of_ble_eq_true rfl) hk ⟨by repeat (first | exact zB_n | refine zB_r (by omega) ?_ | refine zB_i ?_ | refine zB_l ?_ | refine zB_z ?_), by repeat (first | exact zB_n | refine zB_r (by omega) ?_ | refine zB_i ?_ | refine zB_l ?_ | refine zB_z ?_)⟩ (fun H11 eH11 => ?_)
  have h_43 : H11 43 = .inr (6, [.null, .int (iI 0)]) := zf_same eH11
  have h_34 := (zf_ne eH11 (by decide)).trans h_34
  have fr := fr.put eH11 (by simp)
  have hk := zk_psh eH11 hk (zkc_o (by repeat (first | exact zB_n | refine zB_r (by omega) ?_ | refine zB_i ?_ | refine zB_l ?_ | refine zB_z ?_)))
  have fz : zFr [43] _ _ := zFr.put zFr.rf eH11 (List.mem_singleton.mpr rfl)
  have h_35 := (fz 35 (by decide)).trans h_35
  have h_36 := (fz 36 (by decide)).trans h_36
  have w37 := w37.fr fz (by decide) (by decide)
  have w39 := w39.fr fz (by decide) (by decide)
  have w41 := w41.fr fz (by decide) (by decide)
  refine v_dup dX1_init_61 rfl ?_
  refine v_cI (av := []) (st := [.ref 43, .ref 34]) zyX7_init lX1_22 (p_iWide (d := 3) h_43 (by decide) hk (by decide)) dX1_init_62 rfl rfl (Nat.le_of_ble_eq_true rfl) (by omega) (Nat.le_of_ble_eq_true rfl) (Nat.le_of_ble_eq_true rfl) (Or.inr ⟨by repeat (first | exact zB_n | refine zB_r (by omega) ?_ | refine zB_i ?_ | refine zB_l ?_ | refine zB_z ?_), by repeat (first | exact zB_n | refine zB_r (by omega) ?_ | refine zB_i ?_ | refine zB_l ?_ | refine zB_z ?_)⟩) (fun r9 G4 n9 q9 => ?_)
  obtain ⟨rfl, q9n, w43, hk, fr9⟩ := q9
  have q9n := q9n.symm
  subst q9n
  have h_34 := (fr9 34 (by decide)).trans h_34
  have h_35 := (fr9 35 (by decide)).trans h_35
  have h_36 := (fr9 36 (by decide)).trans h_36
  have w37 := w37.fr fr9 (by decide) (by decide)
  have w39 := w39.fr fr9 (by decide) (by decide)
  have w41 := w41.fr fr9 (by decide) (by decide)
  have fr := fr.tr fr9 (by decide)
  refine v_putF (fs' := [.ref 35, .ref 36, .ref 37, .ref 39, .ref 41, .ref 43, .null, .int (iI (bz false)), .int (iI (bz false)), .int (iI (bz false)), .int (iI 0), .int (iI 0)]) hX ffX1_33 dX1_init_65 h_34 (by decide) (Nat.le_of_ble_eq_true rfl) rfl rfl rfl (fun H12 eH12 => ?_)
  have h_34 : H12 34 = .inr (1, [.ref 35, .ref 36, .ref 37, .ref 39, .ref 41, .ref 43, .null, .int (iI (bz false)), .int (iI (bz false)), .int (iI (bz false)), .int (iI 0), .int (iI 0)]) := zf_same eH12
  have fr := fr.put eH12 (by simp)
  have hk := zk_put eH12 hk (zkc_o (by repeat (first | exact zB_n | refine zB_r (by omega) ?_ | refine zB_i ?_ | refine zB_l ?_ | refine zB_z ?_)))
  have fz : zFr [34] _ _ := zFr.put zFr.rf eH12 (List.mem_singleton.mpr rfl)
  have h_35 := (fz 35 (by decide)).trans h_35
  have h_36 := (fz 36 (by decide)).trans h_36
  have w37 := w37.fr fz (by decide) (by decide)
  have w39 := w39.fr fz (by decide) (by decide)
  have w41 := w41.fr fz (by decide) (by decide)
  have w43 := w43.fr fz (by decide) (by decide)
  refine v_aload_n dX1_init_68 rfl ?_
  refine v_new nX1_20 dX1_init_69 (Nat.le_of_ble_eq_true rfl) (Nat.le_of_ble_eq_true rfl) hk ⟨by repeat (first | exact zB_n | refine zB_r (by omega) ?_ | refine zB_i ?_ | refine zB_l ?_ | refine zB_z ?_), by repeat (first | exact zB_n | refine zB_r (by omega) ?_ | refine zB_i ?_ | refine zB_l ?_ | refine zB_z ?_)⟩ (fun H13 eH13 => ?_)
  have h_45 : H13 45 = .inr (6, [.null, .int (iI 0)]) := zf_same eH13
  have h_34 := (zf_ne eH13 (by decide)).trans h_34
  have fr := fr.put eH13 (by simp)
  have hk := zk_psh eH13 hk (zkc_o (by repeat (first | exact zB_n | refine zB_r (by omega) ?_ | refine zB_i ?_ | refine zB_l ?_ | refine zB_z ?_)))
  have fz : zFr [45] _ _ := zFr.put zFr.rf eH13 (List.mem_singleton.mpr rfl)
  have h_35 := (fz 35 (by decide)).trans h_35
  have h_36 := (fz 36 (by decide)).trans h_36
  have w37 := w37.fr fz (by decide) (by decide)
  have w39 := w39.fr fz (by decide) (by decide)
  have w41 := w41.fr fz (by decide) (by decide)
  have w43 := w43.fr fz (by decide) (by decide)
  refine v_dup dX1_init_72 rfl ?_
  refine v_cI (av := []) (st := [.ref 45, .ref 34]) zyX7_init lX1_22 (p_iWide (d := 3) h_45 (by decide) hk (by decide)) dX1_init_73 rfl rfl (Nat.le_of_ble_eq_true rfl) (by omega) (Nat.le_of_ble_eq_true rfl) (Nat.le_of_ble_eq_true rfl) (Or.inr ⟨by repeat (first | exact zB_n | refine zB_r (by omega) ?_ | refine zB_i ?_ | refine zB_l ?_ | refine zB_z ?_), by repeat (first | exact zB_n | refine zB_r (by omega) ?_ | refine zB_i ?_ | refine zB_l ?_ | refine zB_z ?_)⟩) (fun r9 G5 n9 q9 => ?_)
  obtain ⟨rfl, q9n, w45, hk, fr9⟩ := q9
  have q9n := q9n.symm
  subst q9n
  have h_34 := (fr9 34 (by decide)).trans h_34
  have h_35 := (fr9 35 (by decide)).trans h_35
  have h_36 := (fr9 36 (by decide)).trans h_36
  have w37 := w37.fr fr9 (by decide) (by decide)
  have w39 := w39.fr fr9 (by decide) (by decide)
  have w41 := w41.fr fr9 (by decide) (by decide)
  have w43 := w43.fr fr9 (by decide) (by decide)
  have fr := fr.tr fr9 (by decide)
  refine v_putF (fs' := [.ref 35, .ref 36, .ref 37, .ref 39, .ref 41, .ref 43, .ref 45, .int (iI (bz false)), .int (iI (bz false)), .int (iI (bz false)), .int (iI 0), .int (iI 0)]) hX ffX1_36 dX1_init_76 h_34 (by decide) (Nat.le_of_ble_eq_true rfl) rfl rfl rfl (fun H14 eH14 => ?_)
  have h_34 : H14 34 = oPage 35 36 37 39 41 43 45 false false false 0 0 := zf_same eH14
  have fr := fr.put eH14 (by simp)
  have hk := zk_put eH14 hk (zkc_o (by repeat (first | exact zB_n | refine zB_r (by omega) ?_ | refine zB_i ?_ | refine zB_l ?_ | refine zB_z ?_)))
  have fz : zFr [34] _ _ := zFr.put zFr.rf eH14 (List.mem_singleton.mpr rfl)
  have h_35 := (fz 35 (by decide)).trans h_35
  have h_36 := (fz 36 (by decide)).trans h_36
  have w37 := w37.fr fz (by decide) (by decide)
  have w39 := w39.fr fz (by decide) (by decide)
  have w41 := w41.fr fz (by decide) (by decide)
  have w43 := w43.fr fz (by decide) (by decide)
  have w45 := w45.fr fz (by decide) (by decide)
  exact v_vret dX1_init_79 trivial (Nat.le_of_ble_eq_true rfl) (Nat.le_of_ble_eq_true rfl) ⟨rfl, rfl, ⟨⟨false, false, false, 0, fun _ => 0, h_34, h_35, (fun _ => Nat.zero_lt_succ _), (fun i hi => absurd hi (by simp)), by decide⟩, ⟨0, w37⟩, ⟨0, w39⟩, ⟨0, w41⟩, ⟨0, w43⟩, ⟨0, w45⟩, false, false, 0, 0, h_36⟩, hk, fr⟩
