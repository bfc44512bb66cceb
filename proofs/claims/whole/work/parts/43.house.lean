/-! The House: calls on places -/
set_option maxHeartbeats 8000000 in
set_option maxRecDepth 100000 in
theorem x_HaddI {d n tc : Nat} {wd pt tf : Nat → Nat} {Q : Nat → Int} {qn : Nat → Bool} {L : List Nat} {p q r : Int} {h : zH} (hH : HD h wd pt Q qn tf tc L) (hr_p : -2147483648 ≤ p ∧ p < 2147483648) (hr_q : -2147483648 ≤ q ∧ q < 2147483648) (hr_r : -2147483648 ≤ r ∧ r < 2147483648) (hx : (isP p && (isP q && isP r)) = false) (hd : 8 ≤ d) :
    zT9 yX8_add cX8_add 4 none d 1 6 [.ref 0, .int (iI p), .int (iI q), .int (iI r)] h n XI (fun h' => HD h' wd pt Q qn tf tc L ∧ zFr HOL h h') := by
  obtain ⟨h_0, h_1, h_2, h_3, hQ, ⟨hp12, hp13, hp14⟩, hA, hT, hG⟩ := id hH
  refine zT_of zyX8_add zpX8 rfl (Nat.le_of_ble_eq_true rfl) (fun X hE h0 => ?_)
  refine v_aload_n dX8_add_0 rfl ?_
  refine v_iload_n dX8_add_1 rfl ?_
  refine v_iload_n dX8_add_2 rfl ?_
  refine v_iload_n dX8_add_3 rfl ?_
  exact v_cVx (av := [.int (iI p), .int (iI q), .int (iI r)]) (st := []) hE h0 zyX8_loadBoth lX8_111 h_0 rfl (x_loadBoth (d := 7) hH hr_p hr_q hr_r hx (by decide)) dX8_add_4 rfl rfl (Nat.le_of_ble_eq_true rfl) (by omega) (Nat.le_of_ble_eq_true rfl) (Nat.le_of_ble_eq_true rfl) (fun h' q => by rw [q]; exact ⟨hH, zFr.rf⟩)
set_option maxHeartbeats 8000000 in
set_option maxRecDepth 100000 in
theorem x_HlessI {d n tc : Nat} {wd pt tf : Nat → Nat} {Q : Nat → Int} {qn : Nat → Bool} {L : List Nat} {p q r : Int} {h : zH} (hH : HD h wd pt Q qn tf tc L) (hr_p : -2147483648 ≤ p ∧ p < 2147483648) (hr_q : -2147483648 ≤ q ∧ q < 2147483648) (hr_r : -2147483648 ≤ r ∧ r < 2147483648) (hx : (isP p && (isP q && isP r)) = false) (hd : 8 ≤ d) :
    zT9 yX8_less cX8_less 4 none d 1 6 [.ref 0, .int (iI p), .int (iI q), .int (iI r)] h n XI (fun h' => HD h' wd pt Q qn tf tc L ∧ zFr HOL h h') := by
  obtain ⟨h_0, h_1, h_2, h_3, hQ, ⟨hp12, hp13, hp14⟩, hA, hT, hG⟩ := id hH
  refine zT_of zyX8_less zpX8 rfl (Nat.le_of_ble_eq_true rfl) (fun X hE h0 => ?_)
  refine v_aload_n dX8_less_0 rfl ?_
  refine v_iload_n dX8_less_1 rfl ?_
  refine v_iload_n dX8_less_2 rfl ?_
  refine v_iload_n dX8_less_3 rfl ?_
  exact v_cVx (av := [.int (iI p), .int (iI q), .int (iI r)]) (st := []) hE h0 zyX8_loadBoth lX8_111 h_0 rfl (x_loadBoth (d := 7) hH hr_p hr_q hr_r hx (by decide)) dX8_less_4 rfl rfl (Nat.le_of_ble_eq_true rfl) (by omega) (Nat.le_of_ble_eq_true rfl) (Nat.le_of_ble_eq_true rfl) (fun h' q => by rw [q]; exact ⟨hH, zFr.rf⟩)
set_option maxHeartbeats 8000000 in
set_option maxRecDepth 100000 in
theorem x_HtimesI {d n tc : Nat} {wd pt tf : Nat → Nat} {Q : Nat → Int} {qn : Nat → Bool} {L : List Nat} {p q r : Int} {h : zH} (hH : HD h wd pt Q qn tf tc L) (hr_p : -2147483648 ≤ p ∧ p < 2147483648) (hr_q : -2147483648 ≤ q ∧ q < 2147483648) (hr_r : -2147483648 ≤ r ∧ r < 2147483648) (hx : (isP p && (isP q && isP r)) = false) (hd : 8 ≤ d) :
    zT9 yX8_times cX8_times 4 none d 1 6 [.ref 0, .int (iI p), .int (iI q), .int (iI r)] h n XI (fun h' => HD h' wd pt Q qn tf tc L ∧ zFr HOL h h') := by
  obtain ⟨h_0, h_1, h_2, h_3, hQ, ⟨hp12, hp13, hp14⟩, hA, hT, hG⟩ := id hH
  refine zT_of zyX8_times zpX8 rfl (Nat.le_of_ble_eq_true rfl) (fun X hE h0 => ?_)
  refine v_aload_n dX8_times_0 rfl ?_
  refine v_iload_n dX8_times_1 rfl ?_
  refine v_iload_n dX8_times_2 rfl ?_
  refine v_iload_n dX8_times_3 rfl ?_
  exact v_cVx (av := [.int (iI p), .int (iI q), .int (iI r)]) (st := []) hE h0 zyX8_loadBoth lX8_111 h_0 rfl (x_loadBoth (d := 7) hH hr_p hr_q hr_r hx (by decide)) dX8_times_4 rfl rfl (Nat.le_of_ble_eq_true rfl) (by omega) (Nat.le_of_ble_eq_true rfl) (Nat.le_of_ble_eq_true rfl) (fun h' q => by rw [q]; exact ⟨hH, zFr.rf⟩)
set_option maxHeartbeats 8000000 in
set_option maxRecDepth 100000 in
theorem x_HoverI {d n tc : Nat} {wd pt tf : Nat → Nat} {Q : Nat → Int} {qn : Nat → Bool} {L : List Nat} {p q r : Int} {h : zH} (hH : HD h wd pt Q qn tf tc L) (hr_p : -2147483648 ≤ p ∧ p < 2147483648) (hr_q : -2147483648 ≤ q ∧ q < 2147483648) (hr_r : -2147483648 ≤ r ∧ r < 2147483648) (hx : (isP p && (isP q && isP r)) = false) (hd : 8 ≤ d) :
    zT9 yX8_over cX8_over 4 none d 1 6 [.ref 0, .int (iI p), .int (iI q), .int (iI r)] h n XI (fun h' => HD h' wd pt Q qn tf tc L ∧ zFr HOL h h') := by
  obtain ⟨h_0, h_1, h_2, h_3, hQ, ⟨hp12, hp13, hp14⟩, hA, hT, hG⟩ := id hH
  refine zT_of zyX8_over zpX8 rfl (Nat.le_of_ble_eq_true rfl) (fun X hE h0 => ?_)
  refine v_aload_n dX8_over_0 rfl ?_
  refine v_iload_n dX8_over_1 rfl ?_
  refine v_iload_n dX8_over_2 rfl ?_
  refine v_iload_n dX8_over_3 rfl ?_
  exact v_cVx (av := [.int (iI p), .int (iI q), .int (iI r)]) (st := []) hE h0 zyX8_loadBoth lX8_111 h_0 rfl (x_loadBoth (d := 7) hH hr_p hr_q hr_r hx (by decide)) dX8_over_4 rfl rfl (Nat.le_of_ble_eq_true rfl) (by omega) (Nat.le_of_ble_eq_true rfl) (Nat.le_of_ble_eq_true rfl) (fun h' q => by rw [q]; exact ⟨hH, zFr.rf⟩)
set_option maxHeartbeats 8000000 in
set_option maxRecDepth 100000 in
theorem x_HfusedI {d n tc : Nat} {wd pt tf : Nat → Nat} {Q : Nat → Int} {qn : Nat → Bool} {L : List Nat} {p q r : Int} {h : zH} (hH : HD h wd pt Q qn tf tc L) (hr_p : -2147483648 ≤ p ∧ p < 2147483648) (hr_q : -2147483648 ≤ q ∧ q < 2147483648) (hr_r : -2147483648 ≤ r ∧ r < 2147483648) (hx : (isP p && (isP q && isP r)) = false) (hd : 8 ≤ d) :
    zT9 yX8_fused cX8_fused 4 none d 1 6 [.ref 0, .int (iI p), .int (iI q), .int (iI r)] h n XI (fun h' => HD h' wd pt Q qn tf tc L ∧ zFr HOL h h') := by
  obtain ⟨h_0, h_1, h_2, h_3, hQ, ⟨hp12, hp13, hp14⟩, hA, hT, hG⟩ := id hH
  refine zT_of zyX8_fused zpX8 rfl (Nat.le_of_ble_eq_true rfl) (fun X hE h0 => ?_)
  refine v_aload_n dX8_fused_0 rfl ?_
  refine v_iload_n dX8_fused_1 rfl ?_
  refine v_iload_n dX8_fused_2 rfl ?_
  refine v_iload_n dX8_fused_3 rfl ?_
  exact v_cVx (av := [.int (iI p), .int (iI q), .int (iI r)]) (st := []) hE h0 zyX8_loadBoth lX8_111 h_0 rfl (x_loadBoth (d := 7) hH hr_p hr_q hr_r hx (by decide)) dX8_fused_4 rfl rfl (Nat.le_of_ble_eq_true rfl) (by omega) (Nat.le_of_ble_eq_true rfl) (Nat.le_of_ble_eq_true rfl) (fun h' q => by rw [q]; exact ⟨hH, zFr.rf⟩)
set_option maxHeartbeats 8000000 in
set_option maxRecDepth 100000 in
theorem x_HfarI {d n tc : Nat} {wd pt tf : Nat → Nat} {Q : Nat → Int} {qn : Nat → Bool} {L : List Nat} {p q r : Int} {h : zH} (hH : HD h wd pt Q qn tf tc L) (hr_p : -2147483648 ≤ p ∧ p < 2147483648) (hr_q : -2147483648 ≤ q ∧ q < 2147483648) (hr_r : -2147483648 ≤ r ∧ r < 2147483648) (hx : (isP p && (isP q && isP r)) = false) (hd : 8 ≤ d) :
    zT9 yX8_far cX8_far 4 none d 1 6 [.ref 0, .int (iI p), .int (iI q), .int (iI r)] h n XI (fun h' => HD h' wd pt Q qn tf tc L ∧ zFr HOL h h') := by
  obtain ⟨h_0, h_1, h_2, h_3, hQ, ⟨hp12, hp13, hp14⟩, hA, hT, hG⟩ := id hH
  refine zT_of zyX8_far zpX8 rfl (Nat.le_of_ble_eq_true rfl) (fun X hE h0 => ?_)
  refine v_aload_n dX8_far_0 rfl ?_
  refine v_iload_n dX8_far_1 rfl ?_
  refine v_iload_n dX8_far_2 rfl ?_
  refine v_iload_n dX8_far_3 rfl ?_
  exact v_cVx (av := [.int (iI p), .int (iI q), .int (iI r)]) (st := []) hE h0 zyX8_loadBoth lX8_111 h_0 rfl (x_loadBoth (d := 7) hH hr_p hr_q hr_r hx (by decide)) dX8_far_4 rfl rfl (Nat.le_of_ble_eq_true rfl) (by omega) (Nat.le_of_ble_eq_true rfl) (Nat.le_of_ble_eq_true rfl) (fun h' q => by rw [q]; exact ⟨hH, zFr.rf⟩)
set_option maxHeartbeats 8000000 in
set_option maxRecDepth 100000 in
theorem x_HsetI {d n tc : Nat} {wd pt tf : Nat → Nat} {Q : Nat → Int} {qn : Nat → Bool} {L : List Nat} {r w b9 : Int} {h : zH} (hH : HD h wd pt Q qn tf tc L) (hr_r : -2147483648 ≤ r ∧ r < 2147483648) (hr_w : -2147483648 ≤ w ∧ w < 2147483648) (hr_b9 : -2147483648 ≤ b9 ∧ b9 < 2147483648) (hx : isP r = false) (hd : 7 ≤ d) :
    zT9 yX8_set cX8_set 4 none d 1 6 [.ref 0, .int (iI r), .int (iI w), .int (iI b9)] h n XI (fun h' => HD h' wd pt Q qn tf tc L ∧ zFr HOL h h') := by
  obtain ⟨h_0, h_1, h_2, h_3, hQ, ⟨hp12, hp13, hp14⟩, hA, hT, hG⟩ := id hH
  refine zT_of zyX8_set zpX8 rfl (Nat.le_of_ble_eq_true rfl) (fun X hE h0 => ?_)
  refine v_iload_n dX8_set_0 rfl ?_
  cases hb0 : isP r with
  | false =>
    exact v_cSx (av := [.int (iI r)]) (st := []) hE h0 zyX8_checkPlace lX8_58 (x_ckP (d := 6) hr_r hb0 (by decide)) dX8_set_1 rfl rfl (Nat.le_of_ble_eq_true rfl) (by omega) (Nat.le_of_ble_eq_true rfl) (Nat.le_of_ble_eq_true rfl) (fun h' q => by rw [q]; exact ⟨hH, zFr.rf⟩)
  | true =>
    obtain ⟨n0, e0, l0⟩ := n_P hb0
    refine v_cS (av := [.int (iI r)]) (st := []) zyX8_checkPlace lX8_58 (e0 ▸ p_ckP (d := 6) l0) dX8_set_1 rfl rfl (Nat.le_of_ble_eq_true rfl) (by omega) (Nat.le_of_ble_eq_true rfl) (Nat.le_of_ble_eq_true rfl) (Or.inl (fun _ _ _ q => ZN q)) (fun r9 K1 n9 q9 => ?_)
    obtain ⟨rfl, q9n, q9h⟩ := q9
    have q9n := q9n.symm
    subst q9n
    have q9h := q9h.symm
    subst q9h
    rw [hb0] at hx
    exact absurd hx (by decide)
set_option maxHeartbeats 8000000 in
set_option maxRecDepth 100000 in
theorem x_HsetA {d n tc : Nat} {wd pt tf : Nat → Nat} {Q : Nat → Int} {qn : Nat → Bool} {L : List Nat} {r w b9 : Int} {h : zH} (hH : HD h wd pt Q qn tf tc L) (hr_r : -2147483648 ≤ r ∧ r < 2147483648) (hr_w : -2147483648 ≤ w ∧ w < 2147483648) (hr_b9 : -2147483648 ≤ b9 ∧ b9 < 2147483648) (hb0 : isP r = true) (hx : isW w = false) (hd : 7 ≤ d) :
    zT9 yX8_set cX8_set 4 none d 1 6 [.ref 0, .int (iI r), .int (iI w), .int (iI b9)] h n XA (fun h' => HD h' wd pt Q qn tf tc L ∧ zFr HOL h h') := by
  obtain ⟨h_0, h_1, h_2, h_3, hQ, ⟨hp12, hp13, hp14⟩, hA, hT, hG⟩ := id hH
  refine zT_of zyX8_set zpX8 rfl (Nat.le_of_ble_eq_true rfl) (fun X hE h0 => ?_)
  obtain ⟨n0, e0, l0⟩ := n_P hb0
  refine v_iload_n dX8_set_0 rfl ?_
  refine v_cS (av := [.int (iI r)]) (st := []) zyX8_checkPlace lX8_58 (e0 ▸ p_ckP (d := 6) l0) dX8_set_1 rfl rfl (Nat.le_of_ble_eq_true rfl) (by omega) (Nat.le_of_ble_eq_true rfl) (Nat.le_of_ble_eq_true rfl) (Or.inl (fun _ _ _ q => ZN q)) (fun r9 K1 n9 q9 => ?_)
  obtain ⟨rfl, q9n, q9h⟩ := q9
  have q9n := q9n.symm
  subst q9n
  have q9h := q9h.symm
  subst q9h
  refine v_iload_n dX8_set_4 rfl ?_
  exact v_cSx (av := [.int (iI w)]) (st := []) hE h0 zyX8_checkWidth lX8_62 (x_ckW (d := 6) hr_w hx (by decide)) dX8_set_5 rfl rfl (Nat.le_of_ble_eq_true rfl) (by omega) (Nat.le_of_ble_eq_true rfl) (Nat.le_of_ble_eq_true rfl) (fun h' q => by rw [q]; exact ⟨hH, zFr.rf⟩)
set_option maxHeartbeats 8000000 in
set_option maxRecDepth 100000 in
theorem x_HpatternI {d n tc : Nat} {wd pt tf : Nat → Nat} {Q : Nat → Int} {qn : Nat → Bool} {L : List Nat} {p : Int} {h : zH} (hH : HD h wd pt Q qn tf tc L) (hr_p : -2147483648 ≤ p ∧ p < 2147483648) (hx : isP p = false) (hd : 7 ≤ d) :
    zT9 yX8_pattern cX8_pattern 2 (some .long) d 1 6 [.ref 0, .int (iI p)] h n XI (fun h' => HD h' wd pt Q qn tf tc L ∧ zFr HOL h h') := by
  obtain ⟨h_0, h_1, h_2, h_3, hQ, ⟨hp12, hp13, hp14⟩, hA, hT, hG⟩ := id hH
  refine zT_of zyX8_pattern zpX8 rfl (Nat.le_of_ble_eq_true rfl) (fun X hE h0 => ?_)
  refine v_iload_n dX8_pattern_0 rfl ?_
  cases hb0 : isP p with
  | false =>
    exact v_cSx (av := [.int (iI p)]) (st := []) hE h0 zyX8_checkPlace lX8_58 (x_ckP (d := 6) hr_p hb0 (by decide)) dX8_pattern_1 rfl rfl (Nat.le_of_ble_eq_true rfl) (by omega) (Nat.le_of_ble_eq_true rfl) (Nat.le_of_ble_eq_true rfl) (fun h' q => by rw [q]; exact ⟨hH, zFr.rf⟩)
  | true =>
    obtain ⟨n0, e0, l0⟩ := n_P hb0
    refine v_cS (av := [.int (iI p)]) (st := []) zyX8_checkPlace lX8_58 (e0 ▸ p_ckP (d := 6) l0) dX8_pattern_1 rfl rfl (Nat.le_of_ble_eq_true rfl) (by omega) (Nat.le_of_ble_eq_true rfl) (Nat.le_of_ble_eq_true rfl) (Or.inl (fun _ _ _ q => ZN q)) (fun r9 K1 n9 q9 => ?_)
    obtain ⟨rfl, q9n, q9h⟩ := q9
    have q9n := q9n.symm
    subst q9n
    have q9h := q9h.symm
    subst q9h
    rw [hb0] at hx
    exact absurd hx (by decide)
set_option maxHeartbeats 8000000 in
set_option maxRecDepth 100000 in
theorem x_HwidthI {d n tc : Nat} {wd pt tf : Nat → Nat} {Q : Nat → Int} {qn : Nat → Bool} {L : List Nat} {p : Int} {h : zH} (hH : HD h wd pt Q qn tf tc L) (hr_p : -2147483648 ≤ p ∧ p < 2147483648) (hx : isP p = false) (hd : 7 ≤ d) :
    zT9 yX8_width cX8_width 2 (some .int) d 1 6 [.ref 0, .int (iI p)] h n XI (fun h' => HD h' wd pt Q qn tf tc L ∧ zFr HOL h h') := by
  obtain ⟨h_0, h_1, h_2, h_3, hQ, ⟨hp12, hp13, hp14⟩, hA, hT, hG⟩ := id hH
  refine zT_of zyX8_width zpX8 rfl (Nat.le_of_ble_eq_true rfl) (fun X hE h0 => ?_)
  refine v_iload_n dX8_width_0 rfl ?_
  cases hb0 : isP p with
  | false =>
    exact v_cSx (av := [.int (iI p)]) (st := []) hE h0 zyX8_checkPlace lX8_58 (x_ckP (d := 6) hr_p hb0 (by decide)) dX8_width_1 rfl rfl (Nat.le_of_ble_eq_true rfl) (by omega) (Nat.le_of_ble_eq_true rfl) (Nat.le_of_ble_eq_true rfl) (fun h' q => by rw [q]; exact ⟨hH, zFr.rf⟩)
  | true =>
    obtain ⟨n0, e0, l0⟩ := n_P hb0
    refine v_cS (av := [.int (iI p)]) (st := []) zyX8_checkPlace lX8_58 (e0 ▸ p_ckP (d := 6) l0) dX8_width_1 rfl rfl (Nat.le_of_ble_eq_true rfl) (by omega) (Nat.le_of_ble_eq_true rfl) (Nat.le_of_ble_eq_true rfl) (Or.inl (fun _ _ _ q => ZN q)) (fun r9 K1 n9 q9 => ?_)
    obtain ⟨rfl, q9n, q9h⟩ := q9
    have q9n := q9n.symm
    subst q9n
    have q9h := q9h.symm
    subst q9h
    rw [hb0] at hx
    exact absurd hx (by decide)
set_option maxHeartbeats 8000000 in
set_option maxRecDepth 100000 in
theorem x_HtakeI {d n tc : Nat} {wd pt tf : Nat → Nat} {Q : Nat → Int} {qn : Nat → Bool} {L : List Nat} {p r w : Int} {h : zH} (hH : HD h wd pt Q qn tf tc L) (hr_p : -2147483648 ≤ p ∧ p < 2147483648) (hr_r : -2147483648 ≤ r ∧ r < 2147483648) (hr_w : -2147483648 ≤ w ∧ w < 2147483648) (hx : (isP p && isP r) = false) (hd : 7 ≤ d) :
    zT9 yX8_take cX8_take 4 none d 1 6 [.ref 0, .int (iI p), .int (iI r), .int (iI w)] h n XI (fun h' => HD h' wd pt Q qn tf tc L ∧ zFr HOL h h') := by
  obtain ⟨h_0, h_1, h_2, h_3, hQ, ⟨hp12, hp13, hp14⟩, hA, hT, hG⟩ := id hH
  refine zT_of zyX8_take zpX8 rfl (Nat.le_of_ble_eq_true rfl) (fun X hE h0 => ?_)
  refine v_iload_n dX8_take_0 rfl ?_
  cases hb0 : isP p with
  | false =>
    exact v_cSx (av := [.int (iI p)]) (st := []) hE h0 zyX8_checkPlace lX8_58 (x_ckP (d := 6) hr_p hb0 (by decide)) dX8_take_1 rfl rfl (Nat.le_of_ble_eq_true rfl) (by omega) (Nat.le_of_ble_eq_true rfl) (Nat.le_of_ble_eq_true rfl) (fun h' q => by rw [q]; exact ⟨hH, zFr.rf⟩)
  | true =>
    obtain ⟨n0, e0, l0⟩ := n_P hb0
    refine v_cS (av := [.int (iI p)]) (st := []) zyX8_checkPlace lX8_58 (e0 ▸ p_ckP (d := 6) l0) dX8_take_1 rfl rfl (Nat.le_of_ble_eq_true rfl) (by omega) (Nat.le_of_ble_eq_true rfl) (Nat.le_of_ble_eq_true rfl) (Or.inl (fun _ _ _ q => ZN q)) (fun r9 K1 n9 q9 => ?_)
    obtain ⟨rfl, q9n, q9h⟩ := q9
    have q9n := q9n.symm
    subst q9n
    have q9h := q9h.symm
    subst q9h
    refine v_iload_n dX8_take_4 rfl ?_
    cases hb1 : isP r with
    | false =>
      exact v_cSx (av := [.int (iI r)]) (st := []) hE h0 zyX8_checkPlace lX8_58 (x_ckP (d := 6) hr_r hb1 (by decide)) dX8_take_5 rfl rfl (Nat.le_of_ble_eq_true rfl) (by omega) (Nat.le_of_ble_eq_true rfl) (Nat.le_of_ble_eq_true rfl) (fun h' q => by rw [q]; exact ⟨hH, zFr.rf⟩)
    | true =>
      obtain ⟨n1, e1, l1⟩ := n_P hb1
      refine v_cS (av := [.int (iI r)]) (st := []) zyX8_checkPlace lX8_58 (e1 ▸ p_ckP (d := 6) l1) dX8_take_5 rfl rfl (Nat.le_of_ble_eq_true rfl) (by omega) (Nat.le_of_ble_eq_true rfl) (Nat.le_of_ble_eq_true rfl) (Or.inl (fun _ _ _ q => ZN q)) (fun r9 K2 n9 q9 => ?_)
      obtain ⟨rfl, q9n, q9h⟩ := q9
      have q9n := q9n.symm
      subst q9n
      have q9h := q9h.symm
      subst q9h
      rw [hb0, hb1] at hx
      exact absurd hx (by decide)
set_option maxHeartbeats 8000000 in
set_option maxRecDepth 100000 in
theorem x_HtakeA {d n tc : Nat} {wd pt tf : Nat → Nat} {Q : Nat → Int} {qn : Nat → Bool} {L : List Nat} {p r w : Int} {h : zH} (hH : HD h wd pt Q qn tf tc L) (hr_p : -2147483648 ≤ p ∧ p < 2147483648) (hr_r : -2147483648 ≤ r ∧ r < 2147483648) (hr_w : -2147483648 ≤ w ∧ w < 2147483648) (hb0 : isP p = true) (hb1 : isP r = true) (hx : isW w = false) (hd : 7 ≤ d) :
    zT9 yX8_take cX8_take 4 none d 1 6 [.ref 0, .int (iI p), .int (iI r), .int (iI w)] h n XA (fun h' => HD h' wd pt Q qn tf tc L ∧ zFr HOL h h') := by
  obtain ⟨h_0, h_1, h_2, h_3, hQ, ⟨hp12, hp13, hp14⟩, hA, hT, hG⟩ := id hH
  refine zT_of zyX8_take zpX8 rfl (Nat.le_of_ble_eq_true rfl) (fun X hE h0 => ?_)
  obtain ⟨n0, e0, l0⟩ := n_P hb0
  obtain ⟨n1, e1, l1⟩ := n_P hb1
  refine v_iload_n dX8_take_0 rfl ?_
  refine v_cS (av := [.int (iI p)]) (st := []) zyX8_checkPlace lX8_58 (e0 ▸ p_ckP (d := 6) l0) dX8_take_1 rfl rfl (Nat.le_of_ble_eq_true rfl) (by omega) (Nat.le_of_ble_eq_true rfl) (Nat.le_of_ble_eq_true rfl) (Or.inl (fun _ _ _ q => ZN q)) (fun r9 K1 n9 q9 => ?_)
  obtain ⟨rfl, q9n, q9h⟩ := q9
  have q9n := q9n.symm
  subst q9n
  have q9h := q9h.symm
  subst q9h
  refine v_iload_n dX8_take_4 rfl ?_
  refine v_cS (av := [.int (iI r)]) (st := []) zyX8_checkPlace lX8_58 (e1 ▸ p_ckP (d := 6) l1) dX8_take_5 rfl rfl (Nat.le_of_ble_eq_true rfl) (by omega) (Nat.le_of_ble_eq_true rfl) (Nat.le_of_ble_eq_true rfl) (Or.inl (fun _ _ _ q => ZN q)) (fun r9 K2 n9 q9 => ?_)
  obtain ⟨rfl, q9n, q9h⟩ := q9
  have q9n := q9n.symm
  subst q9n
  have q9h := q9h.symm
  subst q9h
  refine v_iload_n dX8_take_8 rfl ?_
  exact v_cSx (av := [.int (iI w)]) (st := []) hE h0 zyX8_checkWidth lX8_62 (x_ckW (d := 6) hr_w hx (by decide)) dX8_take_9 rfl rfl (Nat.le_of_ble_eq_true rfl) (by omega) (Nat.le_of_ble_eq_true rfl) (Nat.le_of_ble_eq_true rfl) (fun h' q => by rw [q]; exact ⟨hH, zFr.rf⟩)
set_option maxHeartbeats 8000000 in
set_option maxRecDepth 100000 in
theorem x_HratioI {d n tc : Nat} {wd pt tf : Nat → Nat} {Q : Nat → Int} {qn : Nat → Bool} {L : List Nat} {r x y : Int} {h : zH} (hH : HD h wd pt Q qn tf tc L) (hr_r : -2147483648 ≤ r ∧ r < 2147483648) (hx : isP r = false) (hd : 7 ≤ d) :
    zT9 yX8_ratio cX8_ratio 6 none d 1 6 [.ref 0, .int (iI r), .long (jL x), .long (jL y)] h n XI (fun h' => HD h' wd pt Q qn tf tc L ∧ zFr HOL h h') := by
  obtain ⟨h_0, h_1, h_2, h_3, hQ, ⟨hp12, hp13, hp14⟩, hA, hT, hG⟩ := id hH
  refine zT_of zyX8_ratio zpX8 rfl (Nat.le_of_ble_eq_true rfl) (fun X hE h0 => ?_)
  refine v_iload_n dX8_ratio_0 rfl ?_
  cases hb0 : isP r with
  | false =>
    exact v_cSx (av := [.int (iI r)]) (st := []) hE h0 zyX8_checkPlace lX8_58 (x_ckP (d := 6) hr_r hb0 (by decide)) dX8_ratio_1 rfl rfl (Nat.le_of_ble_eq_true rfl) (by omega) (Nat.le_of_ble_eq_true rfl) (Nat.le_of_ble_eq_true rfl) (fun h' q => by rw [q]; exact ⟨hH, zFr.rf⟩)
  | true =>
    obtain ⟨n0, e0, l0⟩ := n_P hb0
    refine v_cS (av := [.int (iI r)]) (st := []) zyX8_checkPlace lX8_58 (e0 ▸ p_ckP (d := 6) l0) dX8_ratio_1 rfl rfl (Nat.le_of_ble_eq_true rfl) (by omega) (Nat.le_of_ble_eq_true rfl) (Nat.le_of_ble_eq_true rfl) (Or.inl (fun _ _ _ q => ZN q)) (fun r9 K1 n9 q9 => ?_)
    obtain ⟨rfl, q9n, q9h⟩ := q9
    have q9n := q9n.symm
    subst q9n
    have q9h := q9h.symm
    subst q9h
    rw [hb0] at hx
    exact absurd hx (by decide)
set_option maxHeartbeats 8000000 in
set_option maxRecDepth 100000 in
theorem x_HwholeI {d n tc : Nat} {wd pt tf : Nat → Nat} {Q : Nat → Int} {qn : Nat → Bool} {L : List Nat} {p : Int} {h : zH} (hH : HD h wd pt Q qn tf tc L) (hr_p : -2147483648 ≤ p ∧ p < 2147483648) (hx : isP p = false) (hd : 7 ≤ d) :
    zT9 yX8_whole cX8_whole 2 (some .long) d 1 6 [.ref 0, .int (iI p)] h n XI (fun h' => HD h' wd pt Q qn tf tc L ∧ zFr HOL h h') := by
  obtain ⟨h_0, h_1, h_2, h_3, hQ, ⟨hp12, hp13, hp14⟩, hA, hT, hG⟩ := id hH
  refine zT_of zyX8_whole zpX8 rfl (Nat.le_of_ble_eq_true rfl) (fun X hE h0 => ?_)
  refine v_iload_n dX8_whole_0 rfl ?_
  cases hb0 : isP p with
  | false =>
    exact v_cSx (av := [.int (iI p)]) (st := []) hE h0 zyX8_checkPlace lX8_58 (x_ckP (d := 6) hr_p hb0 (by decide)) dX8_whole_1 rfl rfl (Nat.le_of_ble_eq_true rfl) (by omega) (Nat.le_of_ble_eq_true rfl) (Nat.le_of_ble_eq_true rfl) (fun h' q => by rw [q]; exact ⟨hH, zFr.rf⟩)
  | true =>
    obtain ⟨n0, e0, l0⟩ := n_P hb0
    refine v_cS (av := [.int (iI p)]) (st := []) zyX8_checkPlace lX8_58 (e0 ▸ p_ckP (d := 6) l0) dX8_whole_1 rfl rfl (Nat.le_of_ble_eq_true rfl) (by omega) (Nat.le_of_ble_eq_true rfl) (Nat.le_of_ble_eq_true rfl) (Or.inl (fun _ _ _ q => ZN q)) (fun r9 K1 n9 q9 => ?_)
    obtain ⟨rfl, q9n, q9h⟩ := q9
    have q9n := q9n.symm
    subst q9n
    have q9h := q9h.symm
    subst q9h
    rw [hb0] at hx
    exact absurd hx (by decide)
set_option maxHeartbeats 8000000 in
set_option maxRecDepth 100000 in
theorem x_HorderI {d n tc : Nat} {wd pt tf : Nat → Nat} {Q : Nat → Int} {qn : Nat → Bool} {L : List Nat} {p q : Int} {h : zH} (hH : HD h wd pt Q qn tf tc L) (hr_p : -2147483648 ≤ p ∧ p < 2147483648) (hr_q : -2147483648 ≤ q ∧ q < 2147483648) (hx : (isP p && isP q) = false) (hd : 7 ≤ d) :
    zT9 yX8_order cX8_order 3 (some .int) d 1 6 [.ref 0, .int (iI p), .int (iI q)] h n XI (fun h' => HD h' wd pt Q qn tf tc L ∧ zFr HOL h h') := by
  obtain ⟨h_0, h_1, h_2, h_3, hQ, ⟨hp12, hp13, hp14⟩, hA, hT, hG⟩ := id hH
  refine zT_of zyX8_order zpX8 rfl (Nat.le_of_ble_eq_true rfl) (fun X hE h0 => ?_)
  refine v_iload_n dX8_order_0 rfl ?_
  cases hb0 : isP p with
  | false =>
    exact v_cSx (av := [.int (iI p)]) (st := []) hE h0 zyX8_checkPlace lX8_58 (x_ckP (d := 6) hr_p hb0 (by decide)) dX8_order_1 rfl rfl (Nat.le_of_ble_eq_true rfl) (by omega) (Nat.le_of_ble_eq_true rfl) (Nat.le_of_ble_eq_true rfl) (fun h' q => by rw [q]; exact ⟨hH, zFr.rf⟩)
  | true =>
    obtain ⟨n0, e0, l0⟩ := n_P hb0
    refine v_cS (av := [.int (iI p)]) (st := []) zyX8_checkPlace lX8_58 (e0 ▸ p_ckP (d := 6) l0) dX8_order_1 rfl rfl (Nat.le_of_ble_eq_true rfl) (by omega) (Nat.le_of_ble_eq_true rfl) (Nat.le_of_ble_eq_true rfl) (Or.inl (fun _ _ _ q => ZN q)) (fun r9 K1 n9 q9 => ?_)
    obtain ⟨rfl, q9n, q9h⟩ := q9
    have q9n := q9n.symm
    subst q9n
    have q9h := q9h.symm
    subst q9h
    refine v_iload_n dX8_order_4 rfl ?_
    cases hb1 : isP q with
    | false =>
      exact v_cSx (av := [.int (iI q)]) (st := []) hE h0 zyX8_checkPlace lX8_58 (x_ckP (d := 6) hr_q hb1 (by decide)) dX8_order_5 rfl rfl (Nat.le_of_ble_eq_true rfl) (by omega) (Nat.le_of_ble_eq_true rfl) (Nat.le_of_ble_eq_true rfl) (fun h' q => by rw [q]; exact ⟨hH, zFr.rf⟩)
    | true =>
      obtain ⟨n1, e1, l1⟩ := n_P hb1
      refine v_cS (av := [.int (iI q)]) (st := []) zyX8_checkPlace lX8_58 (e1 ▸ p_ckP (d := 6) l1) dX8_order_5 rfl rfl (Nat.le_of_ble_eq_true rfl) (by omega) (Nat.le_of_ble_eq_true rfl) (Nat.le_of_ble_eq_true rfl) (Or.inl (fun _ _ _ q => ZN q)) (fun r9 K2 n9 q9 => ?_)
      obtain ⟨rfl, q9n, q9h⟩ := q9
      have q9n := q9n.symm
      subst q9n
      have q9h := q9h.symm
      subst q9h
      rw [hb0, hb1] at hx
      exact absurd hx (by decide)
set_option maxHeartbeats 8000000 in
set_option maxRecDepth 100000 in
theorem x_HrootI {d n tc : Nat} {wd pt tf : Nat → Nat} {Q : Nat → Int} {qn : Nat → Bool} {L : List Nat} {p k r : Int} {h : zH} (hH : HD h wd pt Q qn tf tc L) (hr_p : -2147483648 ≤ p ∧ p < 2147483648) (hr_k : -2147483648 ≤ k ∧ k < 2147483648) (hr_r : -2147483648 ≤ r ∧ r < 2147483648) (hx : (isP p && isP r) = false) (hd : 7 ≤ d) :
    zT9 yX8_root cX8_root 4 none d 1 6 [.ref 0, .int (iI p), .int (iI k), .int (iI r)] h n XI (fun h' => HD h' wd pt Q qn tf tc L ∧ zFr HOL h h') := by
  obtain ⟨h_0, h_1, h_2, h_3, hQ, ⟨hp12, hp13, hp14⟩, hA, hT, hG⟩ := id hH
  refine zT_of zyX8_root zpX8 rfl (Nat.le_of_ble_eq_true rfl) (fun X hE h0 => ?_)
  refine v_iload_n dX8_root_0 rfl ?_
  cases hb0 : isP p with
  | false =>
    exact v_cSx (av := [.int (iI p)]) (st := []) hE h0 zyX8_checkPlace lX8_58 (x_ckP (d := 6) hr_p hb0 (by decide)) dX8_root_1 rfl rfl (Nat.le_of_ble_eq_true rfl) (by omega) (Nat.le_of_ble_eq_true rfl) (Nat.le_of_ble_eq_true rfl) (fun h' q => by rw [q]; exact ⟨hH, zFr.rf⟩)
  | true =>
    obtain ⟨n0, e0, l0⟩ := n_P hb0
    refine v_cS (av := [.int (iI p)]) (st := []) zyX8_checkPlace lX8_58 (e0 ▸ p_ckP (d := 6) l0) dX8_root_1 rfl rfl (Nat.le_of_ble_eq_true rfl) (by omega) (Nat.le_of_ble_eq_true rfl) (Nat.le_of_ble_eq_true rfl) (Or.inl (fun _ _ _ q => ZN q)) (fun r9 K1 n9 q9 => ?_)
    obtain ⟨rfl, q9n, q9h⟩ := q9
    have q9n := q9n.symm
    subst q9n
    have q9h := q9h.symm
    subst q9h
    refine v_iload_n dX8_root_4 rfl ?_
    cases hb1 : isP r with
    | false =>
      exact v_cSx (av := [.int (iI r)]) (st := []) hE h0 zyX8_checkPlace lX8_58 (x_ckP (d := 6) hr_r hb1 (by decide)) dX8_root_5 rfl rfl (Nat.le_of_ble_eq_true rfl) (by omega) (Nat.le_of_ble_eq_true rfl) (Nat.le_of_ble_eq_true rfl) (fun h' q => by rw [q]; exact ⟨hH, zFr.rf⟩)
    | true =>
      obtain ⟨n1, e1, l1⟩ := n_P hb1
      refine v_cS (av := [.int (iI r)]) (st := []) zyX8_checkPlace lX8_58 (e1 ▸ p_ckP (d := 6) l1) dX8_root_5 rfl rfl (Nat.le_of_ble_eq_true rfl) (by omega) (Nat.le_of_ble_eq_true rfl) (Nat.le_of_ble_eq_true rfl) (Or.inl (fun _ _ _ q => ZN q)) (fun r9 K2 n9 q9 => ?_)
      obtain ⟨rfl, q9n, q9h⟩ := q9
      have q9n := q9n.symm
      subst q9n
      have q9h := q9h.symm
      subst q9h
      rw [hb0, hb1] at hx
      exact absurd hx (by decide)
set_option maxHeartbeats 8000000 in
set_option maxRecDepth 100000 in
theorem x_HrootA {d n tc : Nat} {wd pt tf : Nat → Nat} {Q : Nat → Int} {qn : Nat → Bool} {L : List Nat} {p k r : Int} {h : zH} (hH : HD h wd pt Q qn tf tc L) (hr_p : -2147483648 ≤ p ∧ p < 2147483648) (hr_k : -2147483648 ≤ k ∧ k < 2147483648) (hr_r : -2147483648 ≤ r ∧ r < 2147483648) (hb0 : isP p = true) (hb1 : isP r = true) (hx : ¬ (1 ≤ k ∧ k ≤ 8)) (hd : 7 ≤ d) :
    zT9 yX8_root cX8_root 4 none d 1 6 [.ref 0, .int (iI p), .int (iI k), .int (iI r)] h n XA (fun h' => HD h' wd pt Q qn tf tc L ∧ zFr HOL h h') := by
  obtain ⟨h_0, h_1, h_2, h_3, hQ, ⟨hp12, hp13, hp14⟩, hA, hT, hG⟩ := id hH
  refine zT_of zyX8_root zpX8 rfl (Nat.le_of_ble_eq_true rfl) (fun X hE h0 => ?_)
  obtain ⟨n0, e0, l0⟩ := n_P hb0
  obtain ⟨n1, e1, l1⟩ := n_P hb1
  refine v_iload_n dX8_root_0 rfl ?_
  refine v_cS (av := [.int (iI p)]) (st := []) zyX8_checkPlace lX8_58 (e0 ▸ p_ckP (d := 6) l0) dX8_root_1 rfl rfl (Nat.le_of_ble_eq_true rfl) (by omega) (Nat.le_of_ble_eq_true rfl) (Nat.le_of_ble_eq_true rfl) (Or.inl (fun _ _ _ q => ZN q)) (fun r9 K1 n9 q9 => ?_)
  obtain ⟨rfl, q9n, q9h⟩ := q9
  have q9n := q9n.symm
  subst q9n
  have q9h := q9h.symm
  subst q9h
  refine v_iload_n dX8_root_4 rfl ?_
  refine v_cS (av := [.int (iI r)]) (st := []) zyX8_checkPlace lX8_58 (e1 ▸ p_ckP (d := 6) l1) dX8_root_5 rfl rfl (Nat.le_of_ble_eq_true rfl) (by omega) (Nat.le_of_ble_eq_true rfl) (Nat.le_of_ble_eq_true rfl) (Or.inl (fun _ _ _ q => ZN q)) (fun r9 K2 n9 q9 => ?_)
  obtain ⟨rfl, q9n, q9h⟩ := q9
  have q9n := q9n.symm
  subst q9n
  have q9h := q9h.symm
  subst q9h
  refine v_iload_n dX8_root_8 rfl ?_
  refine v_iconst (iI 1) dX8_root_9 rfl ?_
  refine w_icmp_lt 19 dX8_root_10 (by decide) (by omega) (by decide) (fun c1 => ?_) (fun c1 => ?_)
  · skip
    exact v_thr (text := "no such root") hE h0 (⟨hH, zFr.rf⟩) rfl zX_f.2.1 zX_k.2.1 zX_i.2.1 (by decide) zX_A dX8_root_19 dX8_root_22 dX8_root_23 dX8_root_25 dX8_root_28 (by omega) (Nat.le_of_ble_eq_true rfl) (Nat.le_of_ble_eq_true rfl) (Nat.le_of_ble_eq_true rfl)
  · skip
    refine v_iload_n dX8_root_13 rfl ?_
    refine v_bipush (iI 8) dX8_root_14 rfl ?_
    refine w_icmp_le 29 dX8_root_16 (by decide) (by omega) (by decide) (fun c2 => ?_) (fun c2 => ?_)
    · exact absurd c2 (by omega)
    · skip
      exact v_thr (text := "no such root") hE h0 (⟨hH, zFr.rf⟩) rfl zX_f.2.1 zX_k.2.1 zX_i.2.1 (by decide) zX_A dX8_root_19 dX8_root_22 dX8_root_23 dX8_root_25 dX8_root_28 (by omega) (Nat.le_of_ble_eq_true rfl) (Nat.le_of_ble_eq_true rfl) (Nat.le_of_ble_eq_true rfl)
set_option maxHeartbeats 8000000 in
set_option maxRecDepth 100000 in
theorem x_HunderI {d n tc : Nat} {wd pt tf : Nat → Nat} {Q : Nat → Int} {qn : Nat → Bool} {L : List Nat} {p r : Int} {h : zH} (hH : HD h wd pt Q qn tf tc L) (hr_p : -2147483648 ≤ p ∧ p < 2147483648) (hr_r : -2147483648 ≤ r ∧ r < 2147483648) (hx : (isP p && isP r) = false) (hd : 7 ≤ d) :
    zT9 yX8_under cX8_under 3 none d 1 6 [.ref 0, .int (iI p), .int (iI r)] h n XI (fun h' => HD h' wd pt Q qn tf tc L ∧ zFr HOL h h') := by
  obtain ⟨h_0, h_1, h_2, h_3, hQ, ⟨hp12, hp13, hp14⟩, hA, hT, hG⟩ := id hH
  refine zT_of zyX8_under zpX8 rfl (Nat.le_of_ble_eq_true rfl) (fun X hE h0 => ?_)
  refine v_iload_n dX8_under_0 rfl ?_
  cases hb0 : isP p with
  | false =>
    exact v_cSx (av := [.int (iI p)]) (st := []) hE h0 zyX8_checkPlace lX8_58 (x_ckP (d := 6) hr_p hb0 (by decide)) dX8_under_1 rfl rfl (Nat.le_of_ble_eq_true rfl) (by omega) (Nat.le_of_ble_eq_true rfl) (Nat.le_of_ble_eq_true rfl) (fun h' q => by rw [q]; exact ⟨hH, zFr.rf⟩)
  | true =>
    obtain ⟨n0, e0, l0⟩ := n_P hb0
    refine v_cS (av := [.int (iI p)]) (st := []) zyX8_checkPlace lX8_58 (e0 ▸ p_ckP (d := 6) l0) dX8_under_1 rfl rfl (Nat.le_of_ble_eq_true rfl) (by omega) (Nat.le_of_ble_eq_true rfl) (Nat.le_of_ble_eq_true rfl) (Or.inl (fun _ _ _ q => ZN q)) (fun r9 K1 n9 q9 => ?_)
    obtain ⟨rfl, q9n, q9h⟩ := q9
    have q9n := q9n.symm
    subst q9n
    have q9h := q9h.symm
    subst q9h
    refine v_iload_n dX8_under_4 rfl ?_
    cases hb1 : isP r with
    | false =>
      exact v_cSx (av := [.int (iI r)]) (st := []) hE h0 zyX8_checkPlace lX8_58 (x_ckP (d := 6) hr_r hb1 (by decide)) dX8_under_5 rfl rfl (Nat.le_of_ble_eq_true rfl) (by omega) (Nat.le_of_ble_eq_true rfl) (Nat.le_of_ble_eq_true rfl) (fun h' q => by rw [q]; exact ⟨hH, zFr.rf⟩)
    | true =>
      obtain ⟨n1, e1, l1⟩ := n_P hb1
      refine v_cS (av := [.int (iI r)]) (st := []) zyX8_checkPlace lX8_58 (e1 ▸ p_ckP (d := 6) l1) dX8_under_5 rfl rfl (Nat.le_of_ble_eq_true rfl) (by omega) (Nat.le_of_ble_eq_true rfl) (Nat.le_of_ble_eq_true rfl) (Or.inl (fun _ _ _ q => ZN q)) (fun r9 K2 n9 q9 => ?_)
      obtain ⟨rfl, q9n, q9h⟩ := q9
      have q9n := q9n.symm
      subst q9n
      have q9h := q9h.symm
      subst q9h
      rw [hb0, hb1] at hx
      exact absurd hx (by decide)
set_option maxHeartbeats 8000000 in
set_option maxRecDepth 100000 in
theorem x_HpowerI {d n tc : Nat} {wd pt tf : Nat → Nat} {Q : Nat → Int} {qn : Nat → Bool} {L : List Nat} {p k r : Int} {h : zH} (hH : HD h wd pt Q qn tf tc L) (hr_p : -2147483648 ≤ p ∧ p < 2147483648) (hr_k : -2147483648 ≤ k ∧ k < 2147483648) (hr_r : -2147483648 ≤ r ∧ r < 2147483648) (hx : (isP p && isP r) = false) (hd : 7 ≤ d) :
    zT9 yX8_power cX8_power 4 none d 1 6 [.ref 0, .int (iI p), .int (iI k), .int (iI r)] h n XI (fun h' => HD h' wd pt Q qn tf tc L ∧ zFr HOL h h') := by
  obtain ⟨h_0, h_1, h_2, h_3, hQ, ⟨hp12, hp13, hp14⟩, hA, hT, hG⟩ := id hH
  refine zT_of zyX8_power zpX8 rfl (Nat.le_of_ble_eq_true rfl) (fun X hE h0 => ?_)
  refine v_iload_n dX8_power_0 rfl ?_
  cases hb0 : isP p with
  | false =>
    exact v_cSx (av := [.int (iI p)]) (st := []) hE h0 zyX8_checkPlace lX8_58 (x_ckP (d := 6) hr_p hb0 (by decide)) dX8_power_1 rfl rfl (Nat.le_of_ble_eq_true rfl) (by omega) (Nat.le_of_ble_eq_true rfl) (Nat.le_of_ble_eq_true rfl) (fun h' q => by rw [q]; exact ⟨hH, zFr.rf⟩)
  | true =>
    obtain ⟨n0, e0, l0⟩ := n_P hb0
    refine v_cS (av := [.int (iI p)]) (st := []) zyX8_checkPlace lX8_58 (e0 ▸ p_ckP (d := 6) l0) dX8_power_1 rfl rfl (Nat.le_of_ble_eq_true rfl) (by omega) (Nat.le_of_ble_eq_true rfl) (Nat.le_of_ble_eq_true rfl) (Or.inl (fun _ _ _ q => ZN q)) (fun r9 K1 n9 q9 => ?_)
    obtain ⟨rfl, q9n, q9h⟩ := q9
    have q9n := q9n.symm
    subst q9n
    have q9h := q9h.symm
    subst q9h
    refine v_iload_n dX8_power_4 rfl ?_
    cases hb1 : isP r with
    | false =>
      exact v_cSx (av := [.int (iI r)]) (st := []) hE h0 zyX8_checkPlace lX8_58 (x_ckP (d := 6) hr_r hb1 (by decide)) dX8_power_5 rfl rfl (Nat.le_of_ble_eq_true rfl) (by omega) (Nat.le_of_ble_eq_true rfl) (Nat.le_of_ble_eq_true rfl) (fun h' q => by rw [q]; exact ⟨hH, zFr.rf⟩)
    | true =>
      obtain ⟨n1, e1, l1⟩ := n_P hb1
      refine v_cS (av := [.int (iI r)]) (st := []) zyX8_checkPlace lX8_58 (e1 ▸ p_ckP (d := 6) l1) dX8_power_5 rfl rfl (Nat.le_of_ble_eq_true rfl) (by omega) (Nat.le_of_ble_eq_true rfl) (Nat.le_of_ble_eq_true rfl) (Or.inl (fun _ _ _ q => ZN q)) (fun r9 K2 n9 q9 => ?_)
      obtain ⟨rfl, q9n, q9h⟩ := q9
      have q9n := q9n.symm
      subst q9n
      have q9h := q9h.symm
      subst q9h
      rw [hb0, hb1] at hx
      exact absurd hx (by decide)
set_option maxHeartbeats 8000000 in
set_option maxRecDepth 100000 in
theorem x_HpowerA {d n tc : Nat} {wd pt tf : Nat → Nat} {Q : Nat → Int} {qn : Nat → Bool} {L : List Nat} {p k r : Int} {h : zH} (hH : HD h wd pt Q qn tf tc L) (hr_p : -2147483648 ≤ p ∧ p < 2147483648) (hr_k : -2147483648 ≤ k ∧ k < 2147483648) (hr_r : -2147483648 ≤ r ∧ r < 2147483648) (hb0 : isP p = true) (hb1 : isP r = true) (hx : ¬ (-16 ≤ k ∧ k ≤ 16)) (hd : 7 ≤ d) :
    zT9 yX8_power cX8_power 4 none d 1 6 [.ref 0, .int (iI p), .int (iI k), .int (iI r)] h n XA (fun h' => HD h' wd pt Q qn tf tc L ∧ zFr HOL h h') := by
  obtain ⟨h_0, h_1, h_2, h_3, hQ, ⟨hp12, hp13, hp14⟩, hA, hT, hG⟩ := id hH
  refine zT_of zyX8_power zpX8 rfl (Nat.le_of_ble_eq_true rfl) (fun X hE h0 => ?_)
  obtain ⟨n0, e0, l0⟩ := n_P hb0
  obtain ⟨n1, e1, l1⟩ := n_P hb1
  refine v_iload_n dX8_power_0 rfl ?_
  refine v_cS (av := [.int (iI p)]) (st := []) zyX8_checkPlace lX8_58 (e0 ▸ p_ckP (d := 6) l0) dX8_power_1 rfl rfl (Nat.le_of_ble_eq_true rfl) (by omega) (Nat.le_of_ble_eq_true rfl) (Nat.le_of_ble_eq_true rfl) (Or.inl (fun _ _ _ q => ZN q)) (fun r9 K1 n9 q9 => ?_)
  obtain ⟨rfl, q9n, q9h⟩ := q9
  have q9n := q9n.symm
  subst q9n
  have q9h := q9h.symm
  subst q9h
  refine v_iload_n dX8_power_4 rfl ?_
  refine v_cS (av := [.int (iI r)]) (st := []) zyX8_checkPlace lX8_58 (e1 ▸ p_ckP (d := 6) l1) dX8_power_5 rfl rfl (Nat.le_of_ble_eq_true rfl) (by omega) (Nat.le_of_ble_eq_true rfl) (Nat.le_of_ble_eq_true rfl) (Or.inl (fun _ _ _ q => ZN q)) (fun r9 K2 n9 q9 => ?_)
  obtain ⟨rfl, q9n, q9h⟩ := q9
  have q9n := q9n.symm
  subst q9n
  have q9h := q9h.symm
  subst q9h
  refine v_iload_n dX8_power_8 rfl ?_
  refine v_bipush (iI (-16)) dX8_power_9 rfl ?_
  refine w_icmp_lt 20 dX8_power_11 (by decide) (by omega) (by decide) (fun c1 => ?_) (fun c1 => ?_)
  · skip
    exact v_thr (text := "no such power") hE h0 (⟨hH, zFr.rf⟩) rfl zX_f.2.1 zX_k.2.1 zX_i.2.1 (by decide) zX_A dX8_power_20 dX8_power_23 dX8_power_24 dX8_power_26 dX8_power_29 (by omega) (Nat.le_of_ble_eq_true rfl) (Nat.le_of_ble_eq_true rfl) (Nat.le_of_ble_eq_true rfl)
  · skip
    refine v_iload_n dX8_power_14 rfl ?_
    refine v_bipush (iI 16) dX8_power_15 rfl ?_
    refine w_icmp_le 30 dX8_power_17 (by decide) (by omega) (by decide) (fun c2 => ?_) (fun c2 => ?_)
    · exact absurd c2 (by omega)
    · skip
      exact v_thr (text := "no such power") hE h0 (⟨hH, zFr.rf⟩) rfl zX_f.2.1 zX_k.2.1 zX_i.2.1 (by decide) zX_A dX8_power_20 dX8_power_23 dX8_power_24 dX8_power_26 dX8_power_29 (by omega) (Nat.le_of_ble_eq_true rfl) (Nat.le_of_ble_eq_true rfl) (Nat.le_of_ble_eq_true rfl)
set_option maxHeartbeats 8000000 in
set_option maxRecDepth 100000 in
theorem x_HturnI {d n tc : Nat} {wd pt tf : Nat → Nat} {Q : Nat → Int} {qn : Nat → Bool} {L : List Nat} {r m : Int} {h : zH} (hH : HD h wd pt Q qn tf tc L) (hr_r : -2147483648 ≤ r ∧ r < 2147483648) (hr_m : -2147483648 ≤ m ∧ m < 2147483648) (hx : isP r = false) (hd : 7 ≤ d) :
    zT9 yX8_turn cX8_turn 3 none d 1 6 [.ref 0, .int (iI r), .int (iI m)] h n XI (fun h' => HD h' wd pt Q qn tf tc L ∧ zFr HOL h h') := by
  obtain ⟨h_0, h_1, h_2, h_3, hQ, ⟨hp12, hp13, hp14⟩, hA, hT, hG⟩ := id hH
  refine zT_of zyX8_turn zpX8 rfl (Nat.le_of_ble_eq_true rfl) (fun X hE h0 => ?_)
  refine v_iload_n dX8_turn_0 rfl ?_
  cases hb0 : isP r with
  | false =>
    exact v_cSx (av := [.int (iI r)]) (st := []) hE h0 zyX8_checkPlace lX8_58 (x_ckP (d := 6) hr_r hb0 (by decide)) dX8_turn_1 rfl rfl (Nat.le_of_ble_eq_true rfl) (by omega) (Nat.le_of_ble_eq_true rfl) (Nat.le_of_ble_eq_true rfl) (fun h' q => by rw [q]; exact ⟨hH, zFr.rf⟩)
  | true =>
    obtain ⟨n0, e0, l0⟩ := n_P hb0
    refine v_cS (av := [.int (iI r)]) (st := []) zyX8_checkPlace lX8_58 (e0 ▸ p_ckP (d := 6) l0) dX8_turn_1 rfl rfl (Nat.le_of_ble_eq_true rfl) (by omega) (Nat.le_of_ble_eq_true rfl) (Nat.le_of_ble_eq_true rfl) (Or.inl (fun _ _ _ q => ZN q)) (fun r9 K1 n9 q9 => ?_)
    obtain ⟨rfl, q9n, q9h⟩ := q9
    have q9n := q9n.symm
    subst q9n
    have q9h := q9h.symm
    subst q9h
    rw [hb0] at hx
    exact absurd hx (by decide)
set_option maxHeartbeats 8000000 in
set_option maxRecDepth 100000 in
theorem x_HturnA {d n tc : Nat} {wd pt tf : Nat → Nat} {Q : Nat → Int} {qn : Nat → Bool} {L : List Nat} {r m : Int} {h : zH} (hH : HD h wd pt Q qn tf tc L) (hr_r : -2147483648 ≤ r ∧ r < 2147483648) (hr_m : -2147483648 ≤ m ∧ m < 2147483648) (hb0 : isP r = true) (hx : ¬ (0 ≤ m ∧ m ≤ 7)) (hd : 7 ≤ d) :
    zT9 yX8_turn cX8_turn 3 none d 1 6 [.ref 0, .int (iI r), .int (iI m)] h n XA (fun h' => HD h' wd pt Q qn tf tc L ∧ zFr HOL h h') := by
  obtain ⟨h_0, h_1, h_2, h_3, hQ, ⟨hp12, hp13, hp14⟩, hA, hT, hG⟩ := id hH
  refine zT_of zyX8_turn zpX8 rfl (Nat.le_of_ble_eq_true rfl) (fun X hE h0 => ?_)
  obtain ⟨n0, e0, l0⟩ := n_P hb0
  refine v_iload_n dX8_turn_0 rfl ?_
  refine v_cS (av := [.int (iI r)]) (st := []) zyX8_checkPlace lX8_58 (e0 ▸ p_ckP (d := 6) l0) dX8_turn_1 rfl rfl (Nat.le_of_ble_eq_true rfl) (by omega) (Nat.le_of_ble_eq_true rfl) (Nat.le_of_ble_eq_true rfl) (Or.inl (fun _ _ _ q => ZN q)) (fun r9 K1 n9 q9 => ?_)
  obtain ⟨rfl, q9n, q9h⟩ := q9
  have q9n := q9n.symm
  subst q9n
  have q9h := q9h.symm
  subst q9h
  refine v_iload_n dX8_turn_4 rfl ?_
  refine w_if_lt 14 dX8_turn_5 (by decide) (by omega) (fun c1 => ?_) (fun c1 => ?_)
  · skip
    exact v_thr (text := "no such turn") hE h0 (⟨hH, zFr.rf⟩) rfl zX_f.2.1 zX_k.2.1 zX_i.2.1 (by decide) zX_A dX8_turn_14 dX8_turn_17 dX8_turn_18 dX8_turn_20 dX8_turn_23 (by omega) (Nat.le_of_ble_eq_true rfl) (Nat.le_of_ble_eq_true rfl) (Nat.le_of_ble_eq_true rfl)
  · skip
    refine v_iload_n dX8_turn_8 rfl ?_
    refine v_bipush (iI 7) dX8_turn_9 rfl ?_
    refine w_icmp_le 24 dX8_turn_11 (by decide) (by omega) (by decide) (fun c2 => ?_) (fun c2 => ?_)
    · exact absurd c2 (by omega)
    · skip
      exact v_thr (text := "no such turn") hE h0 (⟨hH, zFr.rf⟩) rfl zX_f.2.1 zX_k.2.1 zX_i.2.1 (by decide) zX_A dX8_turn_14 dX8_turn_17 dX8_turn_18 dX8_turn_20 dX8_turn_23 (by omega) (Nat.le_of_ble_eq_true rfl) (Nat.le_of_ble_eq_true rfl) (Nat.le_of_ble_eq_true rfl)
set_option maxHeartbeats 8000000 in
set_option maxRecDepth 100000 in
theorem x_HclearI {d n tc : Nat} {wd pt tf : Nat → Nat} {Q : Nat → Int} {qn : Nat → Bool} {L : List Nat} {k : Int} {h : zH} (hH : HD h wd pt Q qn tf tc L) (hr_k : -2147483648 ≤ k ∧ k < 2147483648) (hx : isQ k = false) (hd : 7 ≤ d) :
    zT9 yX8_clear cX8_clear 2 none d 1 6 [.ref 0, .int (iI k)] h n XI (fun h' => HD h' wd pt Q qn tf tc L ∧ zFr HOL h h') := by
  obtain ⟨h_0, h_1, h_2, h_3, hQ, ⟨hp12, hp13, hp14⟩, hA, hT, hG⟩ := id hH
  refine zT_of zyX8_clear zpX8 rfl (Nat.le_of_ble_eq_true rfl) (fun X hE h0 => ?_)
  refine v_iload_n dX8_clear_0 rfl ?_
  cases hb0 : isQ k with
  | false =>
    exact v_cSx (av := [.int (iI k)]) (st := []) hE h0 zyX8_checkQuire lX8_156 (x_ckQ (d := 6) hr_k hb0 (by decide)) dX8_clear_1 rfl rfl (Nat.le_of_ble_eq_true rfl) (by omega) (Nat.le_of_ble_eq_true rfl) (Nat.le_of_ble_eq_true rfl) (fun h' q => by rw [q]; exact ⟨hH, zFr.rf⟩)
  | true =>
    obtain ⟨n0, e0, l0⟩ := n_Q hb0
    refine v_cS (av := [.int (iI k)]) (st := []) zyX8_checkQuire lX8_156 (e0 ▸ p_ckQ (d := 6) l0) dX8_clear_1 rfl rfl (Nat.le_of_ble_eq_true rfl) (by omega) (Nat.le_of_ble_eq_true rfl) (Nat.le_of_ble_eq_true rfl) (Or.inl (fun _ _ _ q => ZN q)) (fun r9 K1 n9 q9 => ?_)
    obtain ⟨rfl, q9n, q9h⟩ := q9
    have q9n := q9n.symm
    subst q9n
    have q9h := q9h.symm
    subst q9h
    rw [hb0] at hx
    exact absurd hx (by decide)
set_option maxHeartbeats 8000000 in
set_option maxRecDepth 100000 in
theorem x_HsettleI {d n tc : Nat} {wd pt tf : Nat → Nat} {Q : Nat → Int} {qn : Nat → Bool} {L : List Nat} {k r : Int} {h : zH} (hH : HD h wd pt Q qn tf tc L) (hr_k : -2147483648 ≤ k ∧ k < 2147483648) (hr_r : -2147483648 ≤ r ∧ r < 2147483648) (hx : (isQ k && isP r) = false) (hd : 7 ≤ d) :
    zT9 yX8_settle cX8_settle 3 none d 1 6 [.ref 0, .int (iI k), .int (iI r)] h n XI (fun h' => HD h' wd pt Q qn tf tc L ∧ zFr HOL h h') := by
  obtain ⟨h_0, h_1, h_2, h_3, hQ, ⟨hp12, hp13, hp14⟩, hA, hT, hG⟩ := id hH
  refine zT_of zyX8_settle zpX8 rfl (Nat.le_of_ble_eq_true rfl) (fun X hE h0 => ?_)
  refine v_iload_n dX8_settle_0 rfl ?_
  cases hb0 : isQ k with
  | false =>
    exact v_cSx (av := [.int (iI k)]) (st := []) hE h0 zyX8_checkQuire lX8_156 (x_ckQ (d := 6) hr_k hb0 (by decide)) dX8_settle_1 rfl rfl (Nat.le_of_ble_eq_true rfl) (by omega) (Nat.le_of_ble_eq_true rfl) (Nat.le_of_ble_eq_true rfl) (fun h' q => by rw [q]; exact ⟨hH, zFr.rf⟩)
  | true =>
    obtain ⟨n0, e0, l0⟩ := n_Q hb0
    refine v_cS (av := [.int (iI k)]) (st := []) zyX8_checkQuire lX8_156 (e0 ▸ p_ckQ (d := 6) l0) dX8_settle_1 rfl rfl (Nat.le_of_ble_eq_true rfl) (by omega) (Nat.le_of_ble_eq_true rfl) (Nat.le_of_ble_eq_true rfl) (Or.inl (fun _ _ _ q => ZN q)) (fun r9 K1 n9 q9 => ?_)
    obtain ⟨rfl, q9n, q9h⟩ := q9
    have q9n := q9n.symm
    subst q9n
    have q9h := q9h.symm
    subst q9h
    refine v_iload_n dX8_settle_4 rfl ?_
    cases hb1 : isP r with
    | false =>
      exact v_cSx (av := [.int (iI r)]) (st := []) hE h0 zyX8_checkPlace lX8_58 (x_ckP (d := 6) hr_r hb1 (by decide)) dX8_settle_5 rfl rfl (Nat.le_of_ble_eq_true rfl) (by omega) (Nat.le_of_ble_eq_true rfl) (Nat.le_of_ble_eq_true rfl) (fun h' q => by rw [q]; exact ⟨hH, zFr.rf⟩)
    | true =>
      obtain ⟨n1, e1, l1⟩ := n_P hb1
      refine v_cS (av := [.int (iI r)]) (st := []) zyX8_checkPlace lX8_58 (e1 ▸ p_ckP (d := 6) l1) dX8_settle_5 rfl rfl (Nat.le_of_ble_eq_true rfl) (by omega) (Nat.le_of_ble_eq_true rfl) (Nat.le_of_ble_eq_true rfl) (Or.inl (fun _ _ _ q => ZN q)) (fun r9 K2 n9 q9 => ?_)
      obtain ⟨rfl, q9n, q9h⟩ := q9
      have q9n := q9n.symm
      subst q9n
      have q9h := q9h.symm
      subst q9h
      rw [hb0, hb1] at hx
      exact absurd hx (by decide)
set_option maxHeartbeats 8000000 in
set_option maxRecDepth 100000 in
theorem x_HimageI {d n tc : Nat} {wd pt tf : Nat → Nat} {Q : Nat → Int} {qn : Nat → Bool} {L : List Nat} {k i : Int} {h : zH} (hH : HD h wd pt Q qn tf tc L) (hr_k : -2147483648 ≤ k ∧ k < 2147483648) (hr_i : -2147483648 ≤ i ∧ i < 2147483648) (hx : isQ k = false) (hd : 7 ≤ d) :
    zT9 yX8_image cX8_image 3 (some .int) d 1 6 [.ref 0, .int (iI k), .int (iI i)] h n XI (fun h' => HD h' wd pt Q qn tf tc L ∧ zFr HOL h h') := by
  obtain ⟨h_0, h_1, h_2, h_3, hQ, ⟨hp12, hp13, hp14⟩, hA, hT, hG⟩ := id hH
  refine zT_of zyX8_image zpX8 rfl (Nat.le_of_ble_eq_true rfl) (fun X hE h0 => ?_)
  refine v_iload_n dX8_image_0 rfl ?_
  cases hb0 : isQ k with
  | false =>
    exact v_cSx (av := [.int (iI k)]) (st := []) hE h0 zyX8_checkQuire lX8_156 (x_ckQ (d := 6) hr_k hb0 (by decide)) dX8_image_1 rfl rfl (Nat.le_of_ble_eq_true rfl) (by omega) (Nat.le_of_ble_eq_true rfl) (Nat.le_of_ble_eq_true rfl) (fun h' q => by rw [q]; exact ⟨hH, zFr.rf⟩)
  | true =>
    obtain ⟨n0, e0, l0⟩ := n_Q hb0
    refine v_cS (av := [.int (iI k)]) (st := []) zyX8_checkQuire lX8_156 (e0 ▸ p_ckQ (d := 6) l0) dX8_image_1 rfl rfl (Nat.le_of_ble_eq_true rfl) (by omega) (Nat.le_of_ble_eq_true rfl) (Nat.le_of_ble_eq_true rfl) (Or.inl (fun _ _ _ q => ZN q)) (fun r9 K1 n9 q9 => ?_)
    obtain ⟨rfl, q9n, q9h⟩ := q9
    have q9n := q9n.symm
    subst q9n
    have q9h := q9h.symm
    subst q9h
    rw [hb0] at hx
    exact absurd hx (by decide)
set_option maxHeartbeats 8000000 in
set_option maxRecDepth 100000 in
theorem x_HimageA {d n tc : Nat} {wd pt tf : Nat → Nat} {Q : Nat → Int} {qn : Nat → Bool} {L : List Nat} {k i : Int} {h : zH} (hH : HD h wd pt Q qn tf tc L) (hr_k : -2147483648 ≤ k ∧ k < 2147483648) (hr_i : -2147483648 ≤ i ∧ i < 2147483648) (hb0 : isQ k = true) (hx : ¬ (0 ≤ i ∧ i < 16)) (hd : 7 ≤ d) :
    zT9 yX8_image cX8_image 3 (some .int) d 1 6 [.ref 0, .int (iI k), .int (iI i)] h n XA (fun h' => HD h' wd pt Q qn tf tc L ∧ zFr HOL h h') := by
  obtain ⟨h_0, h_1, h_2, h_3, hQ, ⟨hp12, hp13, hp14⟩, hA, hT, hG⟩ := id hH
  refine zT_of zyX8_image zpX8 rfl (Nat.le_of_ble_eq_true rfl) (fun X hE h0 => ?_)
  obtain ⟨n0, e0, l0⟩ := n_Q hb0
  refine v_iload_n dX8_image_0 rfl ?_
  refine v_cS (av := [.int (iI k)]) (st := []) zyX8_checkQuire lX8_156 (e0 ▸ p_ckQ (d := 6) l0) dX8_image_1 rfl rfl (Nat.le_of_ble_eq_true rfl) (by omega) (Nat.le_of_ble_eq_true rfl) (Nat.le_of_ble_eq_true rfl) (Or.inl (fun _ _ _ q => ZN q)) (fun r9 K1 n9 q9 => ?_)
  obtain ⟨rfl, q9n, q9h⟩ := q9
  have q9n := q9n.symm
  subst q9n
  have q9h := q9h.symm
  subst q9h
  refine v_iload_n dX8_image_4 rfl ?_
  refine w_if_lt 14 dX8_image_5 (by decide) (by omega) (fun c1 => ?_) (fun c1 => ?_)
  · skip
    exact v_thr (text := "no such word of an image") hE h0 (⟨hH, zFr.rf⟩) rfl zX_f.2.1 zX_k.2.1 zX_i.2.1 (by decide) zX_A dX8_image_14 dX8_image_17 dX8_image_18 dX8_image_20 dX8_image_23 (by omega) (Nat.le_of_ble_eq_true rfl) (Nat.le_of_ble_eq_true rfl) (Nat.le_of_ble_eq_true rfl)
  · skip
    refine v_iload_n dX8_image_8 rfl ?_
    refine v_bipush (iI 16) dX8_image_9 rfl ?_
    refine w_icmp_lt 24 dX8_image_11 (by decide) (by omega) (by decide) (fun c2 => ?_) (fun c2 => ?_)
    · exact absurd c2 (by omega)
    · skip
      exact v_thr (text := "no such word of an image") hE h0 (⟨hH, zFr.rf⟩) rfl zX_f.2.1 zX_k.2.1 zX_i.2.1 (by decide) zX_A dX8_image_14 dX8_image_17 dX8_image_18 dX8_image_20 dX8_image_23 (by omega) (Nat.le_of_ble_eq_true rfl) (Nat.le_of_ble_eq_true rfl) (Nat.le_of_ble_eq_true rfl)
set_option maxHeartbeats 8000000 in
set_option maxRecDepth 100000 in
theorem x_HreadI {d n tc : Nat} {wd pt tf : Nat → Nat} {Q : Nat → Int} {qn : Nat → Bool} {L : List Nat} {r : Int} {h : zH} (hH : HD h wd pt Q qn tf tc L) (hr_r : -2147483648 ≤ r ∧ r < 2147483648) (hx : isP r = false) (hd : 7 ≤ d) :
    zT9 yX8_read cX8_read 4 (some .int) d 1 6 [.ref 0, .int (iI r)] h n XI (fun h' => HD h' wd pt Q qn tf tc L ∧ zFr HOL h h') := by
  obtain ⟨h_0, h_1, h_2, h_3, hQ, ⟨hp12, hp13, hp14⟩, hA, hT, hG⟩ := id hH
  refine zT_of zyX8_read zpX8 rfl (Nat.le_of_ble_eq_true rfl) (fun X hE h0 => ?_)
  refine v_iload_n dX8_read_0 rfl ?_
  cases hb0 : isP r with
  | false =>
    exact v_cSx (av := [.int (iI r)]) (st := []) hE h0 zyX8_checkPlace lX8_58 (x_ckP (d := 6) hr_r hb0 (by decide)) dX8_read_1 rfl rfl (Nat.le_of_ble_eq_true rfl) (by omega) (Nat.le_of_ble_eq_true rfl) (Nat.le_of_ble_eq_true rfl) (fun h' q => by rw [q]; exact ⟨hH, zFr.rf⟩)
  | true =>
    obtain ⟨n0, e0, l0⟩ := n_P hb0
    refine v_cS (av := [.int (iI r)]) (st := []) zyX8_checkPlace lX8_58 (e0 ▸ p_ckP (d := 6) l0) dX8_read_1 rfl rfl (Nat.le_of_ble_eq_true rfl) (by omega) (Nat.le_of_ble_eq_true rfl) (Nat.le_of_ble_eq_true rfl) (Or.inl (fun _ _ _ q => ZN q)) (fun r9 K1 n9 q9 => ?_)
    obtain ⟨rfl, q9n, q9h⟩ := q9
    have q9n := q9n.symm
    subst q9n
    have q9h := q9h.symm
    subst q9h
    rw [hb0] at hx
    exact absurd hx (by decide)
set_option maxHeartbeats 8000000 in
set_option maxRecDepth 100000 in
theorem x_HwriteI {d n tc : Nat} {wd pt tf : Nat → Nat} {Q : Nat → Int} {qn : Nat → Bool} {L : List Nat} {p : Int} {b : Bool} {h : zH} (hH : HD h wd pt Q qn tf tc L) (hr_p : -2147483648 ≤ p ∧ p < 2147483648) (hx : isP p = false) (hd : 7 ≤ d) :
    zT9 yX8_write cX8_write 3 (some .int) d 1 6 [.ref 0, .int (iI p), .int (iI (bz b))] h n XI (fun h' => HD h' wd pt Q qn tf tc L ∧ zFr HOL h h') := by
  obtain ⟨h_0, h_1, h_2, h_3, hQ, ⟨hp12, hp13, hp14⟩, hA, hT, hG⟩ := id hH
  refine zT_of zyX8_write zpX8 rfl (Nat.le_of_ble_eq_true rfl) (fun X hE h0 => ?_)
  refine v_iload_n dX8_write_0 rfl ?_
  cases hb0 : isP p with
  | false =>
    exact v_cSx (av := [.int (iI p)]) (st := []) hE h0 zyX8_checkPlace lX8_58 (x_ckP (d := 6) hr_p hb0 (by decide)) dX8_write_1 rfl rfl (Nat.le_of_ble_eq_true rfl) (by omega) (Nat.le_of_ble_eq_true rfl) (Nat.le_of_ble_eq_true rfl) (fun h' q => by rw [q]; exact ⟨hH, zFr.rf⟩)
  | true =>
    obtain ⟨n0, e0, l0⟩ := n_P hb0
    refine v_cS (av := [.int (iI p)]) (st := []) zyX8_checkPlace lX8_58 (e0 ▸ p_ckP (d := 6) l0) dX8_write_1 rfl rfl (Nat.le_of_ble_eq_true rfl) (by omega) (Nat.le_of_ble_eq_true rfl) (Nat.le_of_ble_eq_true rfl) (Or.inl (fun _ _ _ q => ZN q)) (fun r9 K1 n9 q9 => ?_)
    obtain ⟨rfl, q9n, q9h⟩ := q9
    have q9n := q9n.symm
    subst q9n
    have q9h := q9h.symm
    subst q9h
    rw [hb0] at hx
    exact absurd hx (by decide)
set_option maxHeartbeats 8000000 in
set_option maxRecDepth 100000 in
theorem x_HgatherI {d n tc : Nat} {wd pt tf : Nat → Nat} {Q : Nat → Int} {qn : Nat → Bool} {L : List Nat} {k p q : Int} {mi : Bool} {h : zH} (hH : HD h wd pt Q qn tf tc L) (hr_k : -2147483648 ≤ k ∧ k < 2147483648) (hr_p : -2147483648 ≤ p ∧ p < 2147483648) (hr_q : -2147483648 ≤ q ∧ q < 2147483648) (hx : (isQ k && (isP p && isP q)) = false) (hd : 8 ≤ d) :
    zT9 yX8_gather cX8_gather 5 none d 1 6 [.ref 0, .int (iI k), .int (iI p), .int (iI q), .int (iI (bz mi))] h n XI (fun h' => HD h' wd pt Q qn tf tc L ∧ zFr HOL h h') := by
  obtain ⟨h_0, h_1, h_2, h_3, hQ, ⟨hp12, hp13, hp14⟩, hA, hT, hG⟩ := id hH
  refine zT_of zyX8_gather zpX8 rfl (Nat.le_of_ble_eq_true rfl) (fun X hE h0 => ?_)
  refine v_iload_n dX8_gather_0 rfl ?_
  cases hb0 : isQ k with
  | false =>
    exact v_cSx (av := [.int (iI k)]) (st := []) hE h0 zyX8_checkQuire lX8_156 (x_ckQ (d := 7) hr_k hb0 (by decide)) dX8_gather_1 rfl rfl (Nat.le_of_ble_eq_true rfl) (by omega) (Nat.le_of_ble_eq_true rfl) (Nat.le_of_ble_eq_true rfl) (fun h' q => by rw [q]; exact ⟨hH, zFr.rf⟩)
  | true =>
    obtain ⟨n0, e0, l0⟩ := n_Q hb0
    refine v_cS (av := [.int (iI k)]) (st := []) zyX8_checkQuire lX8_156 (e0 ▸ p_ckQ (d := 7) l0) dX8_gather_1 rfl rfl (Nat.le_of_ble_eq_true rfl) (by omega) (Nat.le_of_ble_eq_true rfl) (Nat.le_of_ble_eq_true rfl) (Or.inl (fun _ _ _ q => ZN q)) (fun r9 K1 n9 q9 => ?_)
    obtain ⟨rfl, q9n, q9h⟩ := q9
    have q9n := q9n.symm
    subst q9n
    have q9h := q9h.symm
    subst q9h
    refine v_aload_n dX8_gather_4 rfl ?_
    refine v_iload_n dX8_gather_5 rfl ?_
    refine v_iload_n dX8_gather_6 rfl ?_
    refine v_iload_n dX8_gather_7 rfl ?_
    rw [hb0, Bool.true_and] at hx
    have hx : (isP p && (isP q && isP q)) = false := by rw [Bool.and_self]; exact hx
    exact v_cVx (av := [.int (iI p), .int (iI q), .int (iI q)]) (st := []) hE h0 zyX8_loadBoth lX8_111 h_0 rfl (x_loadBoth (d := 7) hH hr_p hr_q hr_q hx (by decide)) dX8_gather_8 rfl rfl (Nat.le_of_ble_eq_true rfl) (by omega) (Nat.le_of_ble_eq_true rfl) (Nat.le_of_ble_eq_true rfl) (fun h' q => by rw [q]; exact ⟨hH, zFr.rf⟩)
set_option maxHeartbeats 8000000 in
set_option maxRecDepth 100000 in
theorem x_HdotI {d n tc : Nat} {wd pt tf : Nat → Nat} {Q : Nat → Int} {qn : Nat → Bool} {L : List Nat} {k p q m : Int} {h : zH} (hH : HD h wd pt Q qn tf tc L) (hr_k : -2147483648 ≤ k ∧ k < 2147483648) (hr_p : -2147483648 ≤ p ∧ p < 2147483648) (hr_q : -2147483648 ≤ q ∧ q < 2147483648) (hr_m : -2147483648 ≤ m ∧ m < 2147483648) (hx : (isQ k && (isP p && isP q)) = false) (hd : 7 ≤ d) :
    zT9 yX8_dot cX8_dot 6 none d 1 6 [.ref 0, .int (iI k), .int (iI p), .int (iI q), .int (iI m)] h n XI (fun h' => HD h' wd pt Q qn tf tc L ∧ zFr HOL h h') := by
  obtain ⟨h_0, h_1, h_2, h_3, hQ, ⟨hp12, hp13, hp14⟩, hA, hT, hG⟩ := id hH
  refine zT_of zyX8_dot zpX8 rfl (Nat.le_of_ble_eq_true rfl) (fun X hE h0 => ?_)
  refine v_iload_n dX8_dot_0 rfl ?_
  cases hb0 : isQ k with
  | false =>
    exact v_cSx (av := [.int (iI k)]) (st := []) hE h0 zyX8_checkQuire lX8_156 (x_ckQ (d := 6) hr_k hb0 (by decide)) dX8_dot_1 rfl rfl (Nat.le_of_ble_eq_true rfl) (by omega) (Nat.le_of_ble_eq_true rfl) (Nat.le_of_ble_eq_true rfl) (fun h' q => by rw [q]; exact ⟨hH, zFr.rf⟩)
  | true =>
    obtain ⟨n0, e0, l0⟩ := n_Q hb0
    refine v_cS (av := [.int (iI k)]) (st := []) zyX8_checkQuire lX8_156 (e0 ▸ p_ckQ (d := 6) l0) dX8_dot_1 rfl rfl (Nat.le_of_ble_eq_true rfl) (by omega) (Nat.le_of_ble_eq_true rfl) (Nat.le_of_ble_eq_true rfl) (Or.inl (fun _ _ _ q => ZN q)) (fun r9 K1 n9 q9 => ?_)
    obtain ⟨rfl, q9n, q9h⟩ := q9
    have q9n := q9n.symm
    subst q9n
    have q9h := q9h.symm
    subst q9h
    refine v_iload_n dX8_dot_4 rfl ?_
    cases hb1 : isP p with
    | false =>
      exact v_cSx (av := [.int (iI p)]) (st := []) hE h0 zyX8_checkPlace lX8_58 (x_ckP (d := 6) hr_p hb1 (by decide)) dX8_dot_5 rfl rfl (Nat.le_of_ble_eq_true rfl) (by omega) (Nat.le_of_ble_eq_true rfl) (Nat.le_of_ble_eq_true rfl) (fun h' q => by rw [q]; exact ⟨hH, zFr.rf⟩)
    | true =>
      obtain ⟨n1, e1, l1⟩ := n_P hb1
      refine v_cS (av := [.int (iI p)]) (st := []) zyX8_checkPlace lX8_58 (e1 ▸ p_ckP (d := 6) l1) dX8_dot_5 rfl rfl (Nat.le_of_ble_eq_true rfl) (by omega) (Nat.le_of_ble_eq_true rfl) (Nat.le_of_ble_eq_true rfl) (Or.inl (fun _ _ _ q => ZN q)) (fun r9 K2 n9 q9 => ?_)
      obtain ⟨rfl, q9n, q9h⟩ := q9
      have q9n := q9n.symm
      subst q9n
      have q9h := q9h.symm
      subst q9h
      refine v_iload_n dX8_dot_8 rfl ?_
      cases hb2 : isP q with
      | false =>
        exact v_cSx (av := [.int (iI q)]) (st := []) hE h0 zyX8_checkPlace lX8_58 (x_ckP (d := 6) hr_q hb2 (by decide)) dX8_dot_9 rfl rfl (Nat.le_of_ble_eq_true rfl) (by omega) (Nat.le_of_ble_eq_true rfl) (Nat.le_of_ble_eq_true rfl) (fun h' q => by rw [q]; exact ⟨hH, zFr.rf⟩)
      | true =>
        obtain ⟨n2, e2, l2⟩ := n_P hb2
        refine v_cS (av := [.int (iI q)]) (st := []) zyX8_checkPlace lX8_58 (e2 ▸ p_ckP (d := 6) l2) dX8_dot_9 rfl rfl (Nat.le_of_ble_eq_true rfl) (by omega) (Nat.le_of_ble_eq_true rfl) (Nat.le_of_ble_eq_true rfl) (Or.inl (fun _ _ _ q => ZN q)) (fun r9 K3 n9 q9 => ?_)
        obtain ⟨rfl, q9n, q9h⟩ := q9
        have q9n := q9n.symm
        subst q9n
        have q9h := q9h.symm
        subst q9h
        rw [hb0, hb1, hb2] at hx
        exact absurd hx (by decide)
set_option maxHeartbeats 8000000 in
set_option maxRecDepth 100000 in
theorem x_HdotA {d n tc : Nat} {wd pt tf : Nat → Nat} {Q : Nat → Int} {qn : Nat → Bool} {L : List Nat} {k p q m : Int} {h : zH} (hH : HD h wd pt Q qn tf tc L) (hr_k : -2147483648 ≤ k ∧ k < 2147483648) (hr_p : -2147483648 ≤ p ∧ p < 2147483648) (hr_q : -2147483648 ≤ q ∧ q < 2147483648) (hr_m : -2147483648 ≤ m ∧ m < 2147483648) (hb0 : isQ k = true) (hb1 : isP p = true) (hb2 : isP q = true) (hx : ¬ (0 ≤ m ∧ m ≤ 32)) (hd : 7 ≤ d) :
    zT9 yX8_dot cX8_dot 6 none d 1 6 [.ref 0, .int (iI k), .int (iI p), .int (iI q), .int (iI m)] h n XA (fun h' => HD h' wd pt Q qn tf tc L ∧ zFr HOL h h') := by
  obtain ⟨h_0, h_1, h_2, h_3, hQ, ⟨hp12, hp13, hp14⟩, hA, hT, hG⟩ := id hH
  refine zT_of zyX8_dot zpX8 rfl (Nat.le_of_ble_eq_true rfl) (fun X hE h0 => ?_)
  obtain ⟨n0, e0, l0⟩ := n_Q hb0
  obtain ⟨n1, e1, l1⟩ := n_P hb1
  obtain ⟨n2, e2, l2⟩ := n_P hb2
  refine v_iload_n dX8_dot_0 rfl ?_
  refine v_cS (av := [.int (iI k)]) (st := []) zyX8_checkQuire lX8_156 (e0 ▸ p_ckQ (d := 6) l0) dX8_dot_1 rfl rfl (Nat.le_of_ble_eq_true rfl) (by omega) (Nat.le_of_ble_eq_true rfl) (Nat.le_of_ble_eq_true rfl) (Or.inl (fun _ _ _ q => ZN q)) (fun r9 K1 n9 q9 => ?_)
  obtain ⟨rfl, q9n, q9h⟩ := q9
  have q9n := q9n.symm
  subst q9n
  have q9h := q9h.symm
  subst q9h
  refine v_iload_n dX8_dot_4 rfl ?_
  refine v_cS (av := [.int (iI p)]) (st := []) zyX8_checkPlace lX8_58 (e1 ▸ p_ckP (d := 6) l1) dX8_dot_5 rfl rfl (Nat.le_of_ble_eq_true rfl) (by omega) (Nat.le_of_ble_eq_true rfl) (Nat.le_of_ble_eq_true rfl) (Or.inl (fun _ _ _ q => ZN q)) (fun r9 K2 n9 q9 => ?_)
  obtain ⟨rfl, q9n, q9h⟩ := q9
  have q9n := q9n.symm
  subst q9n
  have q9h := q9h.symm
  subst q9h
  refine v_iload_n dX8_dot_8 rfl ?_
  refine v_cS (av := [.int (iI q)]) (st := []) zyX8_checkPlace lX8_58 (e2 ▸ p_ckP (d := 6) l2) dX8_dot_9 rfl rfl (Nat.le_of_ble_eq_true rfl) (by omega) (Nat.le_of_ble_eq_true rfl) (Nat.le_of_ble_eq_true rfl) (Or.inl (fun _ _ _ q => ZN q)) (fun r9 K3 n9 q9 => ?_)
  obtain ⟨rfl, q9n, q9h⟩ := q9
  have q9n := q9n.symm
  subst q9n
  have q9h := q9h.symm
  subst q9h
  refine v_iload dX8_dot_12 rfl ?_
  refine w_if_lt 24 dX8_dot_14 (by decide) (by omega) (fun c1 => ?_) (fun c1 => ?_)
  · skip
    exact v_thr (text := "no such count of products") hE h0 (⟨hH, zFr.rf⟩) rfl zX_f.2.1 zX_k.2.1 zX_i.2.1 (by decide) zX_A dX8_dot_24 dX8_dot_27 dX8_dot_28 dX8_dot_30 dX8_dot_33 (by omega) (Nat.le_of_ble_eq_true rfl) (Nat.le_of_ble_eq_true rfl) (Nat.le_of_ble_eq_true rfl)
  · skip
    refine v_iload dX8_dot_17 rfl ?_
    refine v_bipush (iI 32) dX8_dot_19 rfl ?_
    refine w_icmp_le 34 dX8_dot_21 (by decide) (by omega) (by decide) (fun c2 => ?_) (fun c2 => ?_)
    · exact absurd c2 (by omega)
    · skip
      exact v_thr (text := "no such count of products") hE h0 (⟨hH, zFr.rf⟩) rfl zX_f.2.1 zX_k.2.1 zX_i.2.1 (by decide) zX_A dX8_dot_24 dX8_dot_27 dX8_dot_28 dX8_dot_30 dX8_dot_33 (by omega) (Nat.le_of_ble_eq_true rfl) (Nat.le_of_ble_eq_true rfl) (Nat.le_of_ble_eq_true rfl)
set_option maxHeartbeats 8000000 in
set_option maxRecDepth 100000 in
theorem x_HdotJ {d n tc : Nat} {wd pt tf : Nat → Nat} {Q : Nat → Int} {qn : Nat → Bool} {L : List Nat} {k p q m : Int} {h : zH} (hH : HD h wd pt Q qn tf tc L) (hr_k : -2147483648 ≤ k ∧ k < 2147483648) (hr_p : -2147483648 ≤ p ∧ p < 2147483648) (hr_q : -2147483648 ≤ q ∧ q < 2147483648) (hr_m : -2147483648 ≤ m ∧ m < 2147483648) (hb0 : isQ k = true) (hb1 : isP p = true) (hb2 : isP q = true) (hm : 0 < m ∧ m ≤ 32) (hx : 32 < p + m ∨ 32 < q + m) (hd : 7 ≤ d) :
    zT9 yX8_dot cX8_dot 6 none d 1 6 [.ref 0, .int (iI k), .int (iI p), .int (iI q), .int (iI m)] h n XI (fun h' => HD h' wd pt Q qn tf tc L ∧ zFr HOL h h') := by
  obtain ⟨h_0, h_1, h_2, h_3, hQ, ⟨hp12, hp13, hp14⟩, hA, hT, hG⟩ := id hH
  refine zT_of zyX8_dot zpX8 rfl (Nat.le_of_ble_eq_true rfl) (fun X hE h0 => ?_)
  obtain ⟨n0, e0, l0⟩ := n_Q hb0
  obtain ⟨n1, e1, l1⟩ := n_P hb1
  obtain ⟨n2, e2, l2⟩ := n_P hb2
  refine v_iload_n dX8_dot_0 rfl ?_
  refine v_cS (av := [.int (iI k)]) (st := []) zyX8_checkQuire lX8_156 (e0 ▸ p_ckQ (d := 6) l0) dX8_dot_1 rfl rfl (Nat.le_of_ble_eq_true rfl) (by omega) (Nat.le_of_ble_eq_true rfl) (Nat.le_of_ble_eq_true rfl) (Or.inl (fun _ _ _ q => ZN q)) (fun r9 K1 n9 q9 => ?_)
  obtain ⟨rfl, q9n, q9h⟩ := q9
  have q9n := q9n.symm
  subst q9n
  have q9h := q9h.symm
  subst q9h
  refine v_iload_n dX8_dot_4 rfl ?_
  refine v_cS (av := [.int (iI p)]) (st := []) zyX8_checkPlace lX8_58 (e1 ▸ p_ckP (d := 6) l1) dX8_dot_5 rfl rfl (Nat.le_of_ble_eq_true rfl) (by omega) (Nat.le_of_ble_eq_true rfl) (Nat.le_of_ble_eq_true rfl) (Or.inl (fun _ _ _ q => ZN q)) (fun r9 K2 n9 q9 => ?_)
  obtain ⟨rfl, q9n, q9h⟩ := q9
  have q9n := q9n.symm
  subst q9n
  have q9h := q9h.symm
  subst q9h
  refine v_iload_n dX8_dot_8 rfl ?_
  refine v_cS (av := [.int (iI q)]) (st := []) zyX8_checkPlace lX8_58 (e2 ▸ p_ckP (d := 6) l2) dX8_dot_9 rfl rfl (Nat.le_of_ble_eq_true rfl) (by omega) (Nat.le_of_ble_eq_true rfl) (Nat.le_of_ble_eq_true rfl) (Or.inl (fun _ _ _ q => ZN q)) (fun r9 K3 n9 q9 => ?_)
  obtain ⟨rfl, q9n, q9h⟩ := q9
  have q9n := q9n.symm
  subst q9n
  have q9h := q9h.symm
  subst q9h
  refine v_iload dX8_dot_12 rfl ?_
  refine w_if_lt 24 dX8_dot_14 (by decide) (by omega) (fun c1 => ?_) (fun c1 => ?_)
  · exact absurd c1 (by omega)
  · skip
    refine v_iload dX8_dot_17 rfl ?_
    refine v_bipush (iI 32) dX8_dot_19 rfl ?_
    refine w_icmp_le 34 dX8_dot_21 (by decide) (by omega) (by decide) (fun c2 => ?_) (fun c2 => ?_)
    · skip
      refine v_iload dX8_dot_34 rfl ?_
      refine w_if_le 57 dX8_dot_36 (by decide) (by omega) (fun c3 => ?_) (fun c3 => ?_)
      · exact absurd c3 (by omega)
      · skip
        refine v_iload_n dX8_dot_39 rfl ?_
        refine v_iload dX8_dot_40 rfl ?_
        refine w_iadd dX8_dot_42 ?_
        refine v_iconst (iI 1) dX8_dot_43 rfl ?_
        refine w_isub dX8_dot_44 ?_
        by_cases z : 32 < p + m
        · skip
          exact v_cSx (av := [.int (iI ((p + m) - 1))]) (st := []) hE h0 zyX8_checkPlace lX8_58 (x_ckP (d := 6) (by omega) (decide_eq_false (by omega)) (by decide)) dX8_dot_45 rfl rfl (Nat.le_of_ble_eq_true rfl) (by omega) (Nat.le_of_ble_eq_true rfl) (Nat.le_of_ble_eq_true rfl) (fun h' q => by rw [q]; exact ⟨hH, zFr.rf⟩)
        · obtain ⟨a5, e5⟩ : ∃ a5 : Nat, p + m - 1 = a5 := ⟨(p + m - 1).toNat, by omega⟩
          refine v_cS (av := [.int (iI ((p + m) - 1))]) (st := []) zyX8_checkPlace lX8_58 (e5 ▸ p_ckP (d := 6) (show a5 < 32 by omega)) dX8_dot_45 rfl rfl (Nat.le_of_ble_eq_true rfl) (by omega) (Nat.le_of_ble_eq_true rfl) (Nat.le_of_ble_eq_true rfl) (Or.inl (fun _ _ _ q => ZN q)) (fun r9 K4 n9 q9 => ?_)
          obtain ⟨rfl, q9n, q9h⟩ := q9
          have q9n := q9n.symm
          subst q9n
          have q9h := q9h.symm
          subst q9h
          refine v_iload_n dX8_dot_48 rfl ?_
          refine v_iload dX8_dot_49 rfl ?_
          refine w_iadd dX8_dot_51 ?_
          refine v_iconst (iI 1) dX8_dot_52 rfl ?_
          refine w_isub dX8_dot_53 ?_
          exact v_cSx (av := [.int (iI ((q + m) - 1))]) (st := []) hE h0 zyX8_checkPlace lX8_58 (x_ckP (d := 6) (by omega) (decide_eq_false (by omega)) (by decide)) dX8_dot_54 rfl rfl (Nat.le_of_ble_eq_true rfl) (by omega) (Nat.le_of_ble_eq_true rfl) (Nat.le_of_ble_eq_true rfl) (fun h' q => by rw [q]; exact ⟨hH, zFr.rf⟩)
    · exact absurd c2 (by omega)
set_option maxHeartbeats 8000000 in
set_option maxRecDepth 100000 in
theorem x_HfeedA {d n tc : Nat} {wd pt tf : Nat → Nat} {Q : Nat → Int} {qn : Nat → Bool} {L : List Nat} {x m : Int} {h : zH} (hH : HD h wd pt Q qn tf tc L) (hr_m : -2147483648 ≤ m ∧ m < 2147483648) (hx : fdOk tc m = false) (htc : tc ≤ 80) (hd : 7 ≤ d) :
    zT9 yX8_feed cX8_feed 5 (some .int) d 1 6 [.ref 0, .long (jL x), .int (iI m)] h n XA (fun h' => HD h' wd pt Q qn tf tc L ∧ zFr HOL h h') := by
  obtain ⟨h_0, h_1, h_2, h_3, hQ, ⟨hp12, hp13, hp14⟩, hA, hT, hG⟩ := id hH
  refine zT_of zyX8_feed zpX8 rfl (Nat.le_of_ble_eq_true rfl) (fun X hE h0 => ?_)
  have hx : ¬ (1 ≤ m ∧ m ≤ 8 ∧ (tc : Int) + m ≤ 80) := of_decide_eq_false hx
  obtain ⟨i9, tk9, tens9, mi9, na9, D9, h_30, -⟩ := id hT
  refine v_iload_n dX8_feed_0 rfl ?_
  refine v_iconst (iI 1) dX8_feed_1 rfl ?_
  refine w_icmp_lt 25 dX8_feed_2 (by decide) (by omega) (by decide) (fun c1 => ?_) (fun c1 => ?_)
  · skip
    exact v_thr (text := "no such bytes, or no room for them") hE h0 (⟨hH, zFr.rf⟩) rfl zX_f.2.1 zX_k.2.1 zX_i.2.1 (by decide) zX_A dX8_feed_25 dX8_feed_28 dX8_feed_29 dX8_feed_31 dX8_feed_34 (by omega) (Nat.le_of_ble_eq_true rfl) (Nat.le_of_ble_eq_true rfl) (Nat.le_of_ble_eq_true rfl)
  · skip
    refine v_iload_n dX8_feed_5 rfl ?_
    refine v_bipush (iI 8) dX8_feed_6 rfl ?_
    refine w_icmp_gt 25 dX8_feed_8 (by decide) (by omega) (by decide) (fun c2 => ?_) (fun c2 => ?_)
    · skip
      exact v_thr (text := "no such bytes, or no room for them") hE h0 (⟨hH, zFr.rf⟩) rfl zX_f.2.1 zX_k.2.1 zX_i.2.1 (by decide) zX_A dX8_feed_25 dX8_feed_28 dX8_feed_29 dX8_feed_31 dX8_feed_34 (by omega) (Nat.le_of_ble_eq_true rfl) (Nat.le_of_ble_eq_true rfl) (Nat.le_of_ble_eq_true rfl)
    · skip
      refine v_aload_n dX8_feed_11 rfl ?_
      refine v_get fX8_47 dX8_feed_12 h_0 (by decide) rfl ?_
      refine v_get fX8_178 dX8_feed_15 h_30 (by decide) rfl ?_
      refine v_iload_n dX8_feed_18 rfl ?_
      refine w_iadd dX8_feed_19 ?_
      refine v_bipush (iI 80) dX8_feed_20 rfl ?_
      refine w_icmp_le 35 dX8_feed_22 (by decide) (by omega) (by decide) (fun c3 => ?_) (fun c3 => ?_)
      · exact absurd c3 (by omega)
      · skip
        exact v_thr (text := "no such bytes, or no room for them") hE h0 (⟨hH, zFr.rf⟩) rfl zX_f.2.1 zX_k.2.1 zX_i.2.1 (by decide) zX_A dX8_feed_25 dX8_feed_28 dX8_feed_29 dX8_feed_31 dX8_feed_34 (by omega) (Nat.le_of_ble_eq_true rfl) (Nat.le_of_ble_eq_true rfl) (Nat.le_of_ble_eq_true rfl)
set_option maxHeartbeats 8000000 in
set_option maxRecDepth 100000 in
theorem x_HwholeM {d n tc a1 : Nat} {wd pt tf : Nat → Nat} {Q : Nat → Int} {qn : Nat → Bool} {L : List Nat} {h : zH} (hH : HD h wd pt Q qn tf tc L) (l0 : a1 < 32) (hPL : PL wd pt) (hx : mwB (pt a1) (wd a1) = true) (hd : 7 ≤ d) :
    zT9 yX8_whole cX8_whole 2 (some .long) d 1 6 [.ref 0, .int (iI (a1:Nat))] h n XM (fun h' => HD h' wd pt Q qn tf tc L ∧ zFr HOL h h') := by
  obtain ⟨h_0, h_1, h_2, h_3, hQ, ⟨hp12, hp13, hp14⟩, hA, hT, hG⟩ := id hH
  refine zT_of zyX8_whole zpX8 rfl (Nat.le_of_ble_eq_true rfl) (fun X hE h0 => ?_)
  have w1 := hPL a1 l0
  refine v_iload_n dX8_whole_0 rfl ?_
  refine v_cS (av := [.int (iI (a1:Nat))]) (st := []) zyX8_checkPlace lX8_58 (p_ckP (d := 6) l0) dX8_whole_1 rfl rfl (Nat.le_of_ble_eq_true rfl) (by omega) (Nat.le_of_ble_eq_true rfl) (Nat.le_of_ble_eq_true rfl) (Or.inl (fun _ _ _ q => ZN q)) (fun r9 K1 n9 q9 => ?_)
  obtain ⟨rfl, q9n, q9h⟩ := q9
  have q9n := q9n.symm
  subst q9n
  have q9h := q9h.symm
  subst q9h
  refine v_aload_n dX8_whole_4 rfl ?_
  refine v_get fX8_27 dX8_whole_5 h_0 (by decide) rfl ?_
  refine v_aload_n dX8_whole_8 rfl ?_
  refine v_get fX8_13 dX8_whole_9 h_0 (by decide) rfl ?_
  refine v_iload_n dX8_whole_12 rfl ?_
  refine w_mald dX8_whole_13 h_2 a1 (by omega) (by omega) (by decide) ?_
  refine v_aload_n dX8_whole_14 rfl ?_
  refine v_get fX8_9 dX8_whole_15 h_0 (by decide) rfl ?_
  refine v_iload_n dX8_whole_18 rfl ?_
  refine w_nald dX8_whole_19 h_1 a1 (by omega) (by omega) (by decide) ?_
  obtain ⟨na2, mi2, s2, x2, h_12⟩ := hp12
  have fr : zFr HOL h h := zFr.rf
  refine v_cV (av := [.long (jL (pt a1 : Nat)), .int (iI (wd a1 : Nat))]) (st := []) zyX2_load lX8_71 h_12 rfl (p_load (d := 6) h_12 (by decide) (by omega) w1.2.2) dX8_whole_20 rfl rfl (Nat.le_of_ble_eq_true rfl) (by omega) (Nat.le_of_ble_eq_true rfl) (Nat.le_of_ble_eq_true rfl) (Or.inl (fun _ _ _ q => ZN q)) (fun r9 G1 n9 q9 => ?_)
  obtain ⟨rfl, q9n, ⟨sa, xa, h_12, da⟩, fr9⟩ := q9
  have q9n := q9n.symm
  subst q9n
  have h_0 := (fr9 0 (by decide)).trans h_0
  have h_1 := (fr9 1 (by decide)).trans h_1
  have h_2 := (fr9 2 (by decide)).trans h_2
  have h_3 := (fr9 3 (by decide)).trans h_3
  have hQ := hQ.fr fr9 (by decide)
  have hp13 := hp13.fr fr9 (by decide)
  have hp14 := hp14.fr fr9 (by decide)
  have hA := hA.fr fr9 (by decide)
  have hT := hT.fr fr9 (by decide)
  have hG := hG.fr fr9 (by decide)
  have fr := fr.tr fr9 (by decide)
  have hp12 : IP G1 12 := ⟨_, _, _, _, h_12⟩
  have b1 := pd_b (by omega) w1.2.2 da
  have ew := (e_wh (by omega) w1.2.2 da).1
  rw [hx] at ew
  refine v_aload_n dX8_whole_23 rfl ?_
  refine v_get fX8_27 dX8_whole_24 h_0 (by decide) rfl ?_
  refine v_get fX8_83 dX8_whole_27 h_12 (by decide) rfl ?_
  refine w_ifb_ne 43 dX8_whole_30 (by decide) (fun c1 => ?_) (fun c1 => ?_)
  · skip
    exact v_thr (text := "no whole number that a long holds") hE h0 (⟨⟨h_0, h_1, h_2, h_3, hQ, ⟨hp12, hp13, hp14⟩, hA, hT, hG⟩, fr⟩) rfl zX_f.2.2.1 zX_k.2.2 zX_i.2.2 (by decide) zX_M dX8_whole_43 dX8_whole_46 dX8_whole_47 dX8_whole_49 dX8_whole_52 (by omega) (Nat.le_of_ble_eq_true rfl) (Nat.le_of_ble_eq_true rfl) (Nat.le_of_ble_eq_true rfl)
  · skip
    refine v_aload_n dX8_whole_33 rfl ?_
    refine v_get fX8_27 dX8_whole_34 h_0 (by decide) rfl ?_
    refine v_cV (av := []) (st := []) zyX2_passesLong lX8_87 h_12 rfl (p_passesLong (d := 6) h_12 (by decide) (by omega) (by omega)) dX8_whole_37 rfl rfl (Nat.le_of_ble_eq_true rfl) (by omega) (Nat.le_of_ble_eq_true rfl) (Nat.le_of_ble_eq_true rfl) (Or.inl (fun _ _ _ q => ZN q)) (fun r9 K2 n9 q9 => ?_)
    obtain ⟨rfl, q9n, q9h⟩ := q9
    have q9n := q9n.symm
    subst q9n
    have q9h := q9h.symm
    subst q9h
    refine w_ifb_eq 53 dX8_whole_40 (by decide) (fun c2 => ?_) (fun c2 => ?_)
    · rw [c1, c2] at ew
      exact absurd ew (by decide)
    · skip
      exact v_thr (text := "no whole number that a long holds") hE h0 (⟨⟨h_0, h_1, h_2, h_3, hQ, ⟨hp12, hp13, hp14⟩, hA, hT, hG⟩, fr⟩) rfl zX_f.2.2.1 zX_k.2.2 zX_i.2.2 (by decide) zX_M dX8_whole_43 dX8_whole_46 dX8_whole_47 dX8_whole_49 dX8_whole_52 (by omega) (Nat.le_of_ble_eq_true rfl) (Nat.le_of_ble_eq_true rfl) (Nat.le_of_ble_eq_true rfl)
