/-! The law's static methods. -/
theorem zb_I : Cond.castable XI XI ∈ ZB := by decide
theorem zb_A : Cond.castable XA XA ∈ ZB := by decide
theorem zb_M : Cond.castable XM XM ∈ ZB := by decide
theorem zn_A : (XA, XI) ∈ ZNc := by decide
theorem zn_M : (XM, XI) ∈ ZNc := by decide
def s32 (x : Int) : Int := (x + 2147483648) % 4294967296 - 2147483648
theorem s32_r (x : Int) : -2147483648 ≤ s32 x ∧ s32 x < 2147483648 := by unfold s32; omega
theorem s32_m (x : Int) : x % 4294967296 = s32 x % 4294967296 := by unfold s32; omega
abbrev OHL : List Nat := 90 :: HOL
theorem zyL_set : zYW yL_set cL_set 5 (some .int) [(0, 7, 10, 13), (0, 7, 14, 15)] 4 := ⟨ct_2 (i := 33) rfl rfl, zcL.1, ⟨zcL.2.1, zcL.2.2, by decide +kernel⟩, zpL, by decide⟩
theorem zyL_pattern : zYW yL_pattern cL_pattern 4 (some .int) [(0, 8, 11, 13)] 3 := ⟨ct_2 (i := 135) rfl rfl, zcL.1, ⟨zcL.2.1, zcL.2.2, by decide +kernel⟩, zpL, by decide⟩
theorem zyL_width : zYW yL_width cL_width 4 (some .int) [(0, 9, 12, 13)] 3 := ⟨ct_2 (i := 142) rfl rfl, zcL.1, ⟨zcL.2.1, zcL.2.2, by decide +kernel⟩, zpL, by decide⟩
theorem zyL_take : zYW yL_take cL_take 5 (some .int) [(0, 7, 10, 13), (0, 7, 14, 15)] 4 := ⟨ct_2 (i := 149) rfl rfl, zcL.1, ⟨zcL.2.1, zcL.2.2, by decide +kernel⟩, zpL, by decide⟩
theorem zyL_ratio : zYW yL_ratio cL_ratio 7 (some .int) [(0, 8, 11, 13)] 4 := ⟨ct_2 (i := 190) rfl rfl, zcL.1, ⟨zcL.2.1, zcL.2.2, by decide +kernel⟩, zpL, by decide⟩
theorem zyL_whole : zYW yL_whole cL_whole 4 (some .int) [(0, 8, 11, 13), (0, 8, 14, 35)] 3 := ⟨ct_3 (i := 18) rfl rfl, zcL.1, ⟨zcL.2.1, zcL.2.2, by decide +kernel⟩, zpL, by decide⟩
theorem zyL_order : zYW yL_order cL_order 5 (some .int) [(0, 10, 13, 13)] 4 := ⟨ct_3 (i := 66) rfl rfl, zcL.1, ⟨zcL.2.1, zcL.2.2, by decide +kernel⟩, zpL, by decide⟩
theorem zyL_add : zYW yL_add cL_add 5 (some .int) [(0, 7, 10, 13)] 4 := ⟨ct_3 (i := 80) rfl rfl, zcL.1, ⟨zcL.2.1, zcL.2.2, by decide +kernel⟩, zpL, by decide⟩
theorem zyL_less : zYW yL_less cL_less 5 (some .int) [(0, 7, 10, 13)] 4 := ⟨ct_3 (i := 138) rfl rfl, zcL.1, ⟨zcL.2.1, zcL.2.2, by decide +kernel⟩, zpL, by decide⟩
theorem zyL_times : zYW yL_times cL_times 5 (some .int) [(0, 7, 10, 13)] 4 := ⟨ct_3 (i := 145) rfl rfl, zcL.1, ⟨zcL.2.1, zcL.2.2, by decide +kernel⟩, zpL, by decide⟩
theorem zyL_over : zYW yL_over cL_over 5 (some .int) [(0, 7, 10, 13)] 4 := ⟨ct_3 (i := 156) rfl rfl, zcL.1, ⟨zcL.2.1, zcL.2.2, by decide +kernel⟩, zpL, by decide⟩
theorem zyL_fused : zYW yL_fused cL_fused 5 (some .int) [(0, 7, 10, 13)] 4 := ⟨ct_3 (i := 167) rfl rfl, zcL.1, ⟨zcL.2.1, zcL.2.2, by decide +kernel⟩, zpL, by decide⟩
theorem zyL_root : zYW yL_root cL_root 5 (some .int) [(0, 7, 10, 13), (0, 7, 14, 15)] 4 := ⟨ct_3 (i := 178) rfl rfl, zcL.1, ⟨zcL.2.1, zcL.2.2, by decide +kernel⟩, zpL, by decide⟩
theorem zyL_under : zYW yL_under cL_under 4 (some .int) [(0, 6, 9, 13)] 3 := ⟨ct_3 (i := 194) rfl rfl, zcL.1, ⟨zcL.2.1, zcL.2.2, by decide +kernel⟩, zpL, by decide⟩
theorem zyL_far : zYW yL_far cL_far 5 (some .int) [(0, 7, 10, 13)] 4 := ⟨ct_3 (i := 205) rfl rfl, zcL.1, ⟨zcL.2.1, zcL.2.2, by decide +kernel⟩, zpL, by decide⟩
theorem zyL_power : zYW yL_power cL_power 5 (some .int) [(0, 7, 10, 13), (0, 7, 14, 15)] 4 := ⟨ct_3 (i := 216) rfl rfl, zcL.1, ⟨zcL.2.1, zcL.2.2, by decide +kernel⟩, zpL, by decide⟩
theorem zyL_turn : zYW yL_turn cL_turn 4 (some .int) [(0, 6, 9, 13), (0, 6, 12, 15)] 3 := ⟨ct_3 (i := 232) rfl rfl, zcL.1, ⟨zcL.2.1, zcL.2.2, by decide +kernel⟩, zpL, by decide⟩
theorem zyL_clear : zYW yL_clear cL_clear 3 (some .int) [(0, 5, 8, 13)] 2 := ⟨ct_4 (i := 12) rfl rfl, zcL.1, ⟨zcL.2.1, zcL.2.2, by decide +kernel⟩, zpL, by decide⟩
theorem zyL_gather : zYW yL_gather cL_gather 6 (some .int) [(0, 9, 12, 13)] 5 := ⟨ct_4 (i := 24) rfl rfl, zcL.1, ⟨zcL.2.1, zcL.2.2, by decide +kernel⟩, zpL, by decide⟩
theorem zyL_dot : zYW yL_dot cL_dot 6 (some .int) [(0, 9, 12, 13), (0, 9, 16, 15)] 5 := ⟨ct_4 (i := 32) rfl rfl, zcL.1, ⟨zcL.2.1, zcL.2.2, by decide +kernel⟩, zpL, by decide⟩
theorem zyL_settle : zYW yL_settle cL_settle 4 (some .int) [(0, 6, 9, 13)] 3 := ⟨ct_4 (i := 40) rfl rfl, zcL.1, ⟨zcL.2.1, zcL.2.2, by decide +kernel⟩, zpL, by decide⟩
theorem zyL_image : zYW yL_image cL_image 5 (some .int) [(0, 10, 13, 13), (0, 10, 17, 15)] 4 := ⟨ct_4 (i := 48) rfl rfl, zcL.1, ⟨zcL.2.1, zcL.2.2, by decide +kernel⟩, zpL, by decide⟩
theorem zyL_feed : zYW yL_feed cL_feed 6 (some .int) [(0, 11, 14, 15)] 4 := ⟨ct_4 (i := 61) rfl rfl, zcL.1, ⟨zcL.2.1, zcL.2.2, by decide +kernel⟩, zpL, by decide⟩
theorem zyL_read : zYW yL_read cL_read 4 (some .int) [(0, 9, 12, 13)] 3 := ⟨ct_4 (i := 73) rfl rfl, zcL.1, ⟨zcL.2.1, zcL.2.2, by decide +kernel⟩, zpL, by decide⟩
theorem zyL_write : zYW yL_write cL_write 5 (some .int) [(0, 10, 13, 13)] 4 := ⟨ct_4 (i := 116) rfl rfl, zcL.1, ⟨zcL.2.1, zcL.2.2, by decide +kernel⟩, zpL, by decide⟩
set_option maxHeartbeats 8000000 in
set_option maxRecDepth 100000 in
theorem q_addI {n tc : Nat} {wd pt tf : Nat → Nat} {Q : Nat → Int} {qn : Nat → Bool} {L : List Nat} {p q r : Int} {h : zH} (hH : HD h wd pt Q qn tf tc L) (hr_p : -2147483648 ≤ p ∧ p < 2147483648) (hr_q : -2147483648 ≤ q ∧ q < 2147483648) (hr_r : -2147483648 ≤ r ∧ r < 2147483648) (hx : (isP p && (isP q && isP r)) = false) :
    zMW yL_add cL_add 5 (some .int) [(0, 7, 10, 13)] 10 1 6 [.ref 0, .int (iI p), .int (iI q), .int (iI r)] h n (fun r9 h' n' => r9 = some (.int (iI 1)) ∧ n' = n ∧ HD h' wd pt Q qn tf tc L ∧ zFr HOL h h') := by
  obtain ⟨h_0, -⟩ := id hH
  refine zMW_of zyL_add rfl (Nat.le_of_ble_eq_true rfl) (fun X hX hE => ?_)
  refine v_aload_n dL_add_0 rfl ?_
  refine v_iload_n dL_add_1 rfl ?_
  refine v_iload_n dL_add_2 rfl ?_
  refine v_iload_n dL_add_3 rfl ?_
  exact v_cVc (av := [.int (iI p), .int (iI q), .int (iI r)]) (st := []) hE zyX8_add lL_41 h_0 rfl (x_HaddI (d := 9) hH hr_p hr_q hr_r hx (by decide)) dL_add_4 rfl rfl (Nat.le_of_ble_eq_true rfl) (Nat.le_of_ble_eq_true rfl) (Nat.le_of_ble_eq_true rfl) (Nat.le_of_ble_eq_true rfl) ⟨[], 0, 7, 13, [], rfl, (fun z hz => absurd hz List.not_mem_nil), by decide, by decide, zX_l.1, zb_I⟩ (Or.inl ⟨_, dL_add_10, by decide, dL_add_12, dL_add_13⟩) rfl (fun h' q => ⟨rfl, rfl, q⟩)
set_option maxHeartbeats 8000000 in
set_option maxRecDepth 100000 in
theorem q_lessI {n tc : Nat} {wd pt tf : Nat → Nat} {Q : Nat → Int} {qn : Nat → Bool} {L : List Nat} {p q r : Int} {h : zH} (hH : HD h wd pt Q qn tf tc L) (hr_p : -2147483648 ≤ p ∧ p < 2147483648) (hr_q : -2147483648 ≤ q ∧ q < 2147483648) (hr_r : -2147483648 ≤ r ∧ r < 2147483648) (hx : (isP p && (isP q && isP r)) = false) :
    zMW yL_less cL_less 5 (some .int) [(0, 7, 10, 13)] 10 1 6 [.ref 0, .int (iI p), .int (iI q), .int (iI r)] h n (fun r9 h' n' => r9 = some (.int (iI 1)) ∧ n' = n ∧ HD h' wd pt Q qn tf tc L ∧ zFr HOL h h') := by
  obtain ⟨h_0, -⟩ := id hH
  refine zMW_of zyL_less rfl (Nat.le_of_ble_eq_true rfl) (fun X hX hE => ?_)
  refine v_aload_n dL_less_0 rfl ?_
  refine v_iload_n dL_less_1 rfl ?_
  refine v_iload_n dL_less_2 rfl ?_
  refine v_iload_n dL_less_3 rfl ?_
  exact v_cVc (av := [.int (iI p), .int (iI q), .int (iI r)]) (st := []) hE zyX8_less lL_44 h_0 rfl (x_HlessI (d := 9) hH hr_p hr_q hr_r hx (by decide)) dL_less_4 rfl rfl (Nat.le_of_ble_eq_true rfl) (Nat.le_of_ble_eq_true rfl) (Nat.le_of_ble_eq_true rfl) (Nat.le_of_ble_eq_true rfl) ⟨[], 0, 7, 13, [], rfl, (fun z hz => absurd hz List.not_mem_nil), by decide, by decide, zX_l.1, zb_I⟩ (Or.inl ⟨_, dL_less_10, by decide, dL_less_12, dL_less_13⟩) rfl (fun h' q => ⟨rfl, rfl, q⟩)
set_option maxHeartbeats 8000000 in
set_option maxRecDepth 100000 in
theorem q_timesI {n tc : Nat} {wd pt tf : Nat → Nat} {Q : Nat → Int} {qn : Nat → Bool} {L : List Nat} {p q r : Int} {h : zH} (hH : HD h wd pt Q qn tf tc L) (hr_p : -2147483648 ≤ p ∧ p < 2147483648) (hr_q : -2147483648 ≤ q ∧ q < 2147483648) (hr_r : -2147483648 ≤ r ∧ r < 2147483648) (hx : (isP p && (isP q && isP r)) = false) :
    zMW yL_times cL_times 5 (some .int) [(0, 7, 10, 13)] 10 1 6 [.ref 0, .int (iI p), .int (iI q), .int (iI r)] h n (fun r9 h' n' => r9 = some (.int (iI 1)) ∧ n' = n ∧ HD h' wd pt Q qn tf tc L ∧ zFr HOL h h') := by
  obtain ⟨h_0, -⟩ := id hH
  refine zMW_of zyL_times rfl (Nat.le_of_ble_eq_true rfl) (fun X hX hE => ?_)
  refine v_aload_n dL_times_0 rfl ?_
  refine v_iload_n dL_times_1 rfl ?_
  refine v_iload_n dL_times_2 rfl ?_
  refine v_iload_n dL_times_3 rfl ?_
  exact v_cVc (av := [.int (iI p), .int (iI q), .int (iI r)]) (st := []) hE zyX8_times lL_47 h_0 rfl (x_HtimesI (d := 9) hH hr_p hr_q hr_r hx (by decide)) dL_times_4 rfl rfl (Nat.le_of_ble_eq_true rfl) (Nat.le_of_ble_eq_true rfl) (Nat.le_of_ble_eq_true rfl) (Nat.le_of_ble_eq_true rfl) ⟨[], 0, 7, 13, [], rfl, (fun z hz => absurd hz List.not_mem_nil), by decide, by decide, zX_l.1, zb_I⟩ (Or.inl ⟨_, dL_times_10, by decide, dL_times_12, dL_times_13⟩) rfl (fun h' q => ⟨rfl, rfl, q⟩)
set_option maxHeartbeats 8000000 in
set_option maxRecDepth 100000 in
theorem q_overI {n tc : Nat} {wd pt tf : Nat → Nat} {Q : Nat → Int} {qn : Nat → Bool} {L : List Nat} {p q r : Int} {h : zH} (hH : HD h wd pt Q qn tf tc L) (hr_p : -2147483648 ≤ p ∧ p < 2147483648) (hr_q : -2147483648 ≤ q ∧ q < 2147483648) (hr_r : -2147483648 ≤ r ∧ r < 2147483648) (hx : (isP p && (isP q && isP r)) = false) :
    zMW yL_over cL_over 5 (some .int) [(0, 7, 10, 13)] 10 1 6 [.ref 0, .int (iI p), .int (iI q), .int (iI r)] h n (fun r9 h' n' => r9 = some (.int (iI 1)) ∧ n' = n ∧ HD h' wd pt Q qn tf tc L ∧ zFr HOL h h') := by
  obtain ⟨h_0, -⟩ := id hH
  refine zMW_of zyL_over rfl (Nat.le_of_ble_eq_true rfl) (fun X hX hE => ?_)
  refine v_aload_n dL_over_0 rfl ?_
  refine v_iload_n dL_over_1 rfl ?_
  refine v_iload_n dL_over_2 rfl ?_
  refine v_iload_n dL_over_3 rfl ?_
  exact v_cVc (av := [.int (iI p), .int (iI q), .int (iI r)]) (st := []) hE zyX8_over lL_50 h_0 rfl (x_HoverI (d := 9) hH hr_p hr_q hr_r hx (by decide)) dL_over_4 rfl rfl (Nat.le_of_ble_eq_true rfl) (Nat.le_of_ble_eq_true rfl) (Nat.le_of_ble_eq_true rfl) (Nat.le_of_ble_eq_true rfl) ⟨[], 0, 7, 13, [], rfl, (fun z hz => absurd hz List.not_mem_nil), by decide, by decide, zX_l.1, zb_I⟩ (Or.inl ⟨_, dL_over_10, by decide, dL_over_12, dL_over_13⟩) rfl (fun h' q => ⟨rfl, rfl, q⟩)
set_option maxHeartbeats 8000000 in
set_option maxRecDepth 100000 in
theorem q_fusedI {n tc : Nat} {wd pt tf : Nat → Nat} {Q : Nat → Int} {qn : Nat → Bool} {L : List Nat} {p q r : Int} {h : zH} (hH : HD h wd pt Q qn tf tc L) (hr_p : -2147483648 ≤ p ∧ p < 2147483648) (hr_q : -2147483648 ≤ q ∧ q < 2147483648) (hr_r : -2147483648 ≤ r ∧ r < 2147483648) (hx : (isP p && (isP q && isP r)) = false) :
    zMW yL_fused cL_fused 5 (some .int) [(0, 7, 10, 13)] 10 1 6 [.ref 0, .int (iI p), .int (iI q), .int (iI r)] h n (fun r9 h' n' => r9 = some (.int (iI 1)) ∧ n' = n ∧ HD h' wd pt Q qn tf tc L ∧ zFr HOL h h') := by
  obtain ⟨h_0, -⟩ := id hH
  refine zMW_of zyL_fused rfl (Nat.le_of_ble_eq_true rfl) (fun X hX hE => ?_)
  refine v_aload_n dL_fused_0 rfl ?_
  refine v_iload_n dL_fused_1 rfl ?_
  refine v_iload_n dL_fused_2 rfl ?_
  refine v_iload_n dL_fused_3 rfl ?_
  exact v_cVc (av := [.int (iI p), .int (iI q), .int (iI r)]) (st := []) hE zyX8_fused lL_53 h_0 rfl (x_HfusedI (d := 9) hH hr_p hr_q hr_r hx (by decide)) dL_fused_4 rfl rfl (Nat.le_of_ble_eq_true rfl) (Nat.le_of_ble_eq_true rfl) (Nat.le_of_ble_eq_true rfl) (Nat.le_of_ble_eq_true rfl) ⟨[], 0, 7, 13, [], rfl, (fun z hz => absurd hz List.not_mem_nil), by decide, by decide, zX_l.1, zb_I⟩ (Or.inl ⟨_, dL_fused_10, by decide, dL_fused_12, dL_fused_13⟩) rfl (fun h' q => ⟨rfl, rfl, q⟩)
set_option maxHeartbeats 8000000 in
set_option maxRecDepth 100000 in
theorem q_farI {n tc : Nat} {wd pt tf : Nat → Nat} {Q : Nat → Int} {qn : Nat → Bool} {L : List Nat} {p q r : Int} {h : zH} (hH : HD h wd pt Q qn tf tc L) (hr_p : -2147483648 ≤ p ∧ p < 2147483648) (hr_q : -2147483648 ≤ q ∧ q < 2147483648) (hr_r : -2147483648 ≤ r ∧ r < 2147483648) (hx : (isP p && (isP q && isP r)) = false) :
    zMW yL_far cL_far 5 (some .int) [(0, 7, 10, 13)] 10 1 6 [.ref 0, .int (iI p), .int (iI q), .int (iI r)] h n (fun r9 h' n' => r9 = some (.int (iI 1)) ∧ n' = n ∧ HD h' wd pt Q qn tf tc L ∧ zFr HOL h h') := by
  obtain ⟨h_0, -⟩ := id hH
  refine zMW_of zyL_far rfl (Nat.le_of_ble_eq_true rfl) (fun X hX hE => ?_)
  refine v_aload_n dL_far_0 rfl ?_
  refine v_iload_n dL_far_1 rfl ?_
  refine v_iload_n dL_far_2 rfl ?_
  refine v_iload_n dL_far_3 rfl ?_
  exact v_cVc (av := [.int (iI p), .int (iI q), .int (iI r)]) (st := []) hE zyX8_far lL_63 h_0 rfl (x_HfarI (d := 9) hH hr_p hr_q hr_r hx (by decide)) dL_far_4 rfl rfl (Nat.le_of_ble_eq_true rfl) (Nat.le_of_ble_eq_true rfl) (Nat.le_of_ble_eq_true rfl) (Nat.le_of_ble_eq_true rfl) ⟨[], 0, 7, 13, [], rfl, (fun z hz => absurd hz List.not_mem_nil), by decide, by decide, zX_l.1, zb_I⟩ (Or.inl ⟨_, dL_far_10, by decide, dL_far_12, dL_far_13⟩) rfl (fun h' q => ⟨rfl, rfl, q⟩)
set_option maxHeartbeats 8000000 in
set_option maxRecDepth 100000 in
theorem q_setI {n tc : Nat} {wd pt tf : Nat → Nat} {Q : Nat → Int} {qn : Nat → Bool} {L : List Nat} {r w b9 : Int} {h : zH} (hH : HD h wd pt Q qn tf tc L) (hr_r : -2147483648 ≤ r ∧ r < 2147483648) (hr_w : -2147483648 ≤ w ∧ w < 2147483648) (hr_b9 : -2147483648 ≤ b9 ∧ b9 < 2147483648) (hx : isP r = false) :
    zMW yL_set cL_set 5 (some .int) [(0, 7, 10, 13), (0, 7, 14, 15)] 10 1 6 [.ref 0, .int (iI r), .int (iI w), .int (iI b9)] h n (fun r9 h' n' => r9 = some (.int (iI 1)) ∧ n' = n ∧ HD h' wd pt Q qn tf tc L ∧ zFr HOL h h') := by
  obtain ⟨h_0, -⟩ := id hH
  refine zMW_of zyL_set rfl (Nat.le_of_ble_eq_true rfl) (fun X hX hE => ?_)
  refine v_aload_n dL_set_0 rfl ?_
  refine v_iload_n dL_set_1 rfl ?_
  refine v_iload_n dL_set_2 rfl ?_
  refine v_iload_n dL_set_3 rfl ?_
  exact v_cVc (av := [.int (iI r), .int (iI w), .int (iI b9)]) (st := []) hE zyX8_set lL_7 h_0 rfl (x_HsetI (d := 9) hH hr_r hr_w hr_b9 hx (by decide)) dL_set_4 rfl rfl (Nat.le_of_ble_eq_true rfl) (Nat.le_of_ble_eq_true rfl) (Nat.le_of_ble_eq_true rfl) (Nat.le_of_ble_eq_true rfl) ⟨[], 0, 7, 13, [(0, 7, 14, 15)], rfl, (fun z hz => absurd hz List.not_mem_nil), by decide, by decide, zX_l.1, zb_I⟩ (Or.inl ⟨_, dL_set_10, by decide, dL_set_12, dL_set_13⟩) rfl (fun h' q => ⟨rfl, rfl, q⟩)
set_option maxHeartbeats 8000000 in
set_option maxRecDepth 100000 in
theorem q_setA {n tc : Nat} {wd pt tf : Nat → Nat} {Q : Nat → Int} {qn : Nat → Bool} {L : List Nat} {r w b9 : Int} {h : zH} (hH : HD h wd pt Q qn tf tc L) (hr_r : -2147483648 ≤ r ∧ r < 2147483648) (hr_w : -2147483648 ≤ w ∧ w < 2147483648) (hr_b9 : -2147483648 ≤ b9 ∧ b9 < 2147483648) (hb0 : isP r = true) (hx : isW w = false) :
    zMW yL_set cL_set 5 (some .int) [(0, 7, 10, 13), (0, 7, 14, 15)] 10 1 6 [.ref 0, .int (iI r), .int (iI w), .int (iI b9)] h n (fun r9 h' n' => r9 = some (.int (iI 2)) ∧ n' = n ∧ HD h' wd pt Q qn tf tc L ∧ zFr HOL h h') := by
  obtain ⟨h_0, -⟩ := id hH
  refine zMW_of zyL_set rfl (Nat.le_of_ble_eq_true rfl) (fun X hX hE => ?_)
  refine v_aload_n dL_set_0 rfl ?_
  refine v_iload_n dL_set_1 rfl ?_
  refine v_iload_n dL_set_2 rfl ?_
  refine v_iload_n dL_set_3 rfl ?_
  exact v_cVc (av := [.int (iI r), .int (iI w), .int (iI b9)]) (st := []) hE zyX8_set lL_7 h_0 rfl (x_HsetA (d := 9) hH hr_r hr_w hr_b9 hb0 hx (by decide)) dL_set_4 rfl rfl (Nat.le_of_ble_eq_true rfl) (Nat.le_of_ble_eq_true rfl) (Nat.le_of_ble_eq_true rfl) (Nat.le_of_ble_eq_true rfl) ⟨[(0, 7, 10, 13)], 0, 7, 15, [], rfl, (fun z hz => by rw [List.mem_singleton.mp hz]; exact ⟨by decide, XI, zX_l.1, zn_A⟩), by decide, by decide, zX_l.2.1, zb_A⟩ (Or.inl ⟨_, dL_set_14, by decide, dL_set_16, dL_set_17⟩) rfl (fun h' q => ⟨rfl, rfl, q⟩)
set_option maxHeartbeats 8000000 in
set_option maxRecDepth 100000 in
theorem q_patternI {n tc : Nat} {wd pt tf : Nat → Nat} {Q : Nat → Int} {qn : Nat → Bool} {L : List Nat} {p : Int} {h : zH} (hH : HD h wd pt Q qn tf tc L) (hr_p : -2147483648 ≤ p ∧ p < 2147483648) (hx : isP p = false) :
    zMW yL_pattern cL_pattern 4 (some .int) [(0, 8, 11, 13)] 10 1 6 [.ref 0, .int (iI p), .ref 90] h n (fun r9 h' n' => r9 = some (.int (iI 1)) ∧ n' = n ∧ HD h' wd pt Q qn tf tc L ∧ zFr HOL h h') := by
  obtain ⟨h_0, -⟩ := id hH
  refine zMW_of zyL_pattern rfl (Nat.le_of_ble_eq_true rfl) (fun X hX hE => ?_)
  refine v_aload_n dL_pattern_0 rfl ?_
  refine v_iconst (iI 0) dL_pattern_1 rfl ?_
  refine v_aload_n dL_pattern_2 rfl ?_
  refine v_iload_n dL_pattern_3 rfl ?_
  exact v_cVc (av := [.int (iI p)]) (st := [.int (iI 0), .ref 90]) hE zyX8_pattern lL_17 h_0 rfl (x_HpatternI (d := 9) hH hr_p hx (by decide)) dL_pattern_4 rfl rfl (Nat.le_of_ble_eq_true rfl) (Nat.le_of_ble_eq_true rfl) (Nat.le_of_ble_eq_true rfl) (Nat.le_of_ble_eq_true rfl) ⟨[], 0, 8, 13, [], rfl, (fun z hz => absurd hz List.not_mem_nil), by decide, by decide, zX_l.1, zb_I⟩ (Or.inr ⟨_, dL_pattern_11, by decide, dL_pattern_12, dL_pattern_13⟩) rfl (fun h' q => ⟨rfl, rfl, q⟩)
set_option maxHeartbeats 8000000 in
set_option maxRecDepth 100000 in
theorem q_widthI {n tc : Nat} {wd pt tf : Nat → Nat} {Q : Nat → Int} {qn : Nat → Bool} {L : List Nat} {p : Int} {h : zH} (hH : HD h wd pt Q qn tf tc L) (hr_p : -2147483648 ≤ p ∧ p < 2147483648) (hx : isP p = false) :
    zMW yL_width cL_width 4 (some .int) [(0, 9, 12, 13)] 10 1 6 [.ref 0, .int (iI p), .ref 90] h n (fun r9 h' n' => r9 = some (.int (iI 1)) ∧ n' = n ∧ HD h' wd pt Q qn tf tc L ∧ zFr HOL h h') := by
  obtain ⟨h_0, -⟩ := id hH
  refine zMW_of zyL_width rfl (Nat.le_of_ble_eq_true rfl) (fun X hX hE => ?_)
  refine v_aload_n dL_width_0 rfl ?_
  refine v_iconst (iI 0) dL_width_1 rfl ?_
  refine v_aload_n dL_width_2 rfl ?_
  refine v_iload_n dL_width_3 rfl ?_
  exact v_cVc (av := [.int (iI p)]) (st := [.int (iI 0), .ref 90]) hE zyX8_width lL_21 h_0 rfl (x_HwidthI (d := 9) hH hr_p hx (by decide)) dL_width_4 rfl rfl (Nat.le_of_ble_eq_true rfl) (Nat.le_of_ble_eq_true rfl) (Nat.le_of_ble_eq_true rfl) (Nat.le_of_ble_eq_true rfl) ⟨[], 0, 9, 13, [], rfl, (fun z hz => absurd hz List.not_mem_nil), by decide, by decide, zX_l.1, zb_I⟩ (Or.inr ⟨_, dL_width_12, by decide, dL_width_13, dL_width_14⟩) rfl (fun h' q => ⟨rfl, rfl, q⟩)
set_option maxHeartbeats 8000000 in
set_option maxRecDepth 100000 in
theorem q_takeI {n tc : Nat} {wd pt tf : Nat → Nat} {Q : Nat → Int} {qn : Nat → Bool} {L : List Nat} {p r w : Int} {h : zH} (hH : HD h wd pt Q qn tf tc L) (hr_p : -2147483648 ≤ p ∧ p < 2147483648) (hr_r : -2147483648 ≤ r ∧ r < 2147483648) (hr_w : -2147483648 ≤ w ∧ w < 2147483648) (hx : (isP p && isP r) = false) :
    zMW yL_take cL_take 5 (some .int) [(0, 7, 10, 13), (0, 7, 14, 15)] 10 1 6 [.ref 0, .int (iI p), .int (iI r), .int (iI w)] h n (fun r9 h' n' => r9 = some (.int (iI 1)) ∧ n' = n ∧ HD h' wd pt Q qn tf tc L ∧ zFr HOL h h') := by
  obtain ⟨h_0, -⟩ := id hH
  refine zMW_of zyL_take rfl (Nat.le_of_ble_eq_true rfl) (fun X hX hE => ?_)
  refine v_aload_n dL_take_0 rfl ?_
  refine v_iload_n dL_take_1 rfl ?_
  refine v_iload_n dL_take_2 rfl ?_
  refine v_iload_n dL_take_3 rfl ?_
  exact v_cVc (av := [.int (iI p), .int (iI r), .int (iI w)]) (st := []) hE zyX8_take lL_25 h_0 rfl (x_HtakeI (d := 9) hH hr_p hr_r hr_w hx (by decide)) dL_take_4 rfl rfl (Nat.le_of_ble_eq_true rfl) (Nat.le_of_ble_eq_true rfl) (Nat.le_of_ble_eq_true rfl) (Nat.le_of_ble_eq_true rfl) ⟨[], 0, 7, 13, [(0, 7, 14, 15)], rfl, (fun z hz => absurd hz List.not_mem_nil), by decide, by decide, zX_l.1, zb_I⟩ (Or.inl ⟨_, dL_take_10, by decide, dL_take_12, dL_take_13⟩) rfl (fun h' q => ⟨rfl, rfl, q⟩)
set_option maxHeartbeats 8000000 in
set_option maxRecDepth 100000 in
theorem q_takeA {n tc : Nat} {wd pt tf : Nat → Nat} {Q : Nat → Int} {qn : Nat → Bool} {L : List Nat} {p r w : Int} {h : zH} (hH : HD h wd pt Q qn tf tc L) (hr_p : -2147483648 ≤ p ∧ p < 2147483648) (hr_r : -2147483648 ≤ r ∧ r < 2147483648) (hr_w : -2147483648 ≤ w ∧ w < 2147483648) (hb0 : isP p = true) (hb1 : isP r = true) (hx : isW w = false) :
    zMW yL_take cL_take 5 (some .int) [(0, 7, 10, 13), (0, 7, 14, 15)] 10 1 6 [.ref 0, .int (iI p), .int (iI r), .int (iI w)] h n (fun r9 h' n' => r9 = some (.int (iI 2)) ∧ n' = n ∧ HD h' wd pt Q qn tf tc L ∧ zFr HOL h h') := by
  obtain ⟨h_0, -⟩ := id hH
  refine zMW_of zyL_take rfl (Nat.le_of_ble_eq_true rfl) (fun X hX hE => ?_)
  refine v_aload_n dL_take_0 rfl ?_
  refine v_iload_n dL_take_1 rfl ?_
  refine v_iload_n dL_take_2 rfl ?_
  refine v_iload_n dL_take_3 rfl ?_
  exact v_cVc (av := [.int (iI p), .int (iI r), .int (iI w)]) (st := []) hE zyX8_take lL_25 h_0 rfl (x_HtakeA (d := 9) hH hr_p hr_r hr_w hb0 hb1 hx (by decide)) dL_take_4 rfl rfl (Nat.le_of_ble_eq_true rfl) (Nat.le_of_ble_eq_true rfl) (Nat.le_of_ble_eq_true rfl) (Nat.le_of_ble_eq_true rfl) ⟨[(0, 7, 10, 13)], 0, 7, 15, [], rfl, (fun z hz => by rw [List.mem_singleton.mp hz]; exact ⟨by decide, XI, zX_l.1, zn_A⟩), by decide, by decide, zX_l.2.1, zb_A⟩ (Or.inl ⟨_, dL_take_14, by decide, dL_take_16, dL_take_17⟩) rfl (fun h' q => ⟨rfl, rfl, q⟩)
set_option maxHeartbeats 8000000 in
set_option maxRecDepth 100000 in
theorem q_ratioI {n tc : Nat} {wd pt tf : Nat → Nat} {Q : Nat → Int} {qn : Nat → Bool} {L : List Nat} {r x y : Int} {h : zH} (hH : HD h wd pt Q qn tf tc L) (hr_r : -2147483648 ≤ r ∧ r < 2147483648) (hx : isP r = false) :
    zMW yL_ratio cL_ratio 7 (some .int) [(0, 8, 11, 13)] 10 1 6 [.ref 0, .int (iI r), .long (jL x), .long (jL y)] h n (fun r9 h' n' => r9 = some (.int (iI 1)) ∧ n' = n ∧ HD h' wd pt Q qn tf tc L ∧ zFr HOL h h') := by
  obtain ⟨h_0, -⟩ := id hH
  refine zMW_of zyL_ratio rfl (Nat.le_of_ble_eq_true rfl) (fun X hX hE => ?_)
  refine v_aload_n dL_ratio_0 rfl ?_
  refine v_iload_n dL_ratio_1 rfl ?_
  refine v_lload_n dL_ratio_2 rfl ?_
  refine v_lload dL_ratio_3 rfl ?_
  exact v_cVc (av := [.int (iI r), .long (jL x), .long (jL y)]) (st := []) hE zyX8_ratio lL_28 h_0 rfl (x_HratioI (d := 9) hH hr_r hx (by decide)) dL_ratio_5 rfl rfl (Nat.le_of_ble_eq_true rfl) (Nat.le_of_ble_eq_true rfl) (Nat.le_of_ble_eq_true rfl) (Nat.le_of_ble_eq_true rfl) ⟨[], 0, 8, 13, [], rfl, (fun z hz => absurd hz List.not_mem_nil), by decide, by decide, zX_l.1, zb_I⟩ (Or.inl ⟨_, dL_ratio_11, by decide, dL_ratio_13, dL_ratio_14⟩) rfl (fun h' q => ⟨rfl, rfl, q⟩)
set_option maxHeartbeats 8000000 in
set_option maxRecDepth 100000 in
theorem q_wholeI {n tc : Nat} {wd pt tf : Nat → Nat} {Q : Nat → Int} {qn : Nat → Bool} {L : List Nat} {p : Int} {h : zH} (hH : HD h wd pt Q qn tf tc L) (hr_p : -2147483648 ≤ p ∧ p < 2147483648) (hx : isP p = false) :
    zMW yL_whole cL_whole 4 (some .int) [(0, 8, 11, 13), (0, 8, 14, 35)] 10 1 6 [.ref 0, .int (iI p), .ref 90] h n (fun r9 h' n' => r9 = some (.int (iI 1)) ∧ n' = n ∧ HD h' wd pt Q qn tf tc L ∧ zFr HOL h h') := by
  obtain ⟨h_0, -⟩ := id hH
  refine zMW_of zyL_whole rfl (Nat.le_of_ble_eq_true rfl) (fun X hX hE => ?_)
  refine v_aload_n dL_whole_0 rfl ?_
  refine v_iconst (iI 0) dL_whole_1 rfl ?_
  refine v_aload_n dL_whole_2 rfl ?_
  refine v_iload_n dL_whole_3 rfl ?_
  exact v_cVc (av := [.int (iI p)]) (st := [.int (iI 0), .ref 90]) hE zyX8_whole lL_32 h_0 rfl (x_HwholeI (d := 9) hH hr_p hx (by decide)) dL_whole_4 rfl rfl (Nat.le_of_ble_eq_true rfl) (Nat.le_of_ble_eq_true rfl) (Nat.le_of_ble_eq_true rfl) (Nat.le_of_ble_eq_true rfl) ⟨[], 0, 8, 13, [(0, 8, 14, 35)], rfl, (fun z hz => absurd hz List.not_mem_nil), by decide, by decide, zX_l.1, zb_I⟩ (Or.inr ⟨_, dL_whole_11, by decide, dL_whole_12, dL_whole_13⟩) rfl (fun h' q => ⟨rfl, rfl, q⟩)
set_option maxHeartbeats 8000000 in
set_option maxRecDepth 100000 in
theorem q_wholeM {n tc a1 : Nat} {wd pt tf : Nat → Nat} {Q : Nat → Int} {qn : Nat → Bool} {L : List Nat} {h : zH} (hH : HD h wd pt Q qn tf tc L)  (l0 : a1 < 32) (hPL : PL wd pt) (hx : mwB (pt a1) (wd a1) = true) :
    zMW yL_whole cL_whole 4 (some .int) [(0, 8, 11, 13), (0, 8, 14, 35)] 10 1 6 [.ref 0, .int (iI (a1:Nat)), .ref 90] h n (fun r9 h' n' => r9 = some (.int (iI 2)) ∧ n' = n ∧ HD h' wd pt Q qn tf tc L ∧ zFr HOL h h') := by
  obtain ⟨h_0, -⟩ := id hH
  refine zMW_of zyL_whole rfl (Nat.le_of_ble_eq_true rfl) (fun X hX hE => ?_)
  refine v_aload_n dL_whole_0 rfl ?_
  refine v_iconst (iI 0) dL_whole_1 rfl ?_
  refine v_aload_n dL_whole_2 rfl ?_
  refine v_iload_n dL_whole_3 rfl ?_
  exact v_cVc (av := [.int (iI (a1:Nat))]) (st := [.int (iI 0), .ref 90]) hE zyX8_whole lL_32 h_0 rfl (x_HwholeM (d := 9) hH  l0 hPL hx (by decide)) dL_whole_4 rfl rfl (Nat.le_of_ble_eq_true rfl) (Nat.le_of_ble_eq_true rfl) (Nat.le_of_ble_eq_true rfl) (Nat.le_of_ble_eq_true rfl) ⟨[(0, 8, 11, 13)], 0, 8, 35, [], rfl, (fun z hz => by rw [List.mem_singleton.mp hz]; exact ⟨by decide, XI, zX_l.1, zn_M⟩), by decide, by decide, zX_l.2.2, zb_M⟩ (Or.inr ⟨_, dL_whole_14, by decide, dL_whole_15, dL_whole_16⟩) rfl (fun h' q => ⟨rfl, rfl, q⟩)
set_option maxHeartbeats 8000000 in
set_option maxRecDepth 100000 in
theorem q_orderI {n tc : Nat} {wd pt tf : Nat → Nat} {Q : Nat → Int} {qn : Nat → Bool} {L : List Nat} {p q : Int} {h : zH} (hH : HD h wd pt Q qn tf tc L) (hr_p : -2147483648 ≤ p ∧ p < 2147483648) (hr_q : -2147483648 ≤ q ∧ q < 2147483648) (hx : (isP p && isP q) = false) :
    zMW yL_order cL_order 5 (some .int) [(0, 10, 13, 13)] 10 1 6 [.ref 0, .int (iI p), .int (iI q), .ref 90] h n (fun r9 h' n' => r9 = some (.int (iI 1)) ∧ n' = n ∧ HD h' wd pt Q qn tf tc L ∧ zFr HOL h h') := by
  obtain ⟨h_0, -⟩ := id hH
  refine zMW_of zyL_order rfl (Nat.le_of_ble_eq_true rfl) (fun X hX hE => ?_)
  refine v_aload_n dL_order_0 rfl ?_
  refine v_iconst (iI 0) dL_order_1 rfl ?_
  refine v_aload_n dL_order_2 rfl ?_
  refine v_iload_n dL_order_3 rfl ?_
  refine v_iload_n dL_order_4 rfl ?_
  exact v_cVc (av := [.int (iI p), .int (iI q)]) (st := [.int (iI 0), .ref 90]) hE zyX8_order lL_37 h_0 rfl (x_HorderI (d := 9) hH hr_p hr_q hx (by decide)) dL_order_5 rfl rfl (Nat.le_of_ble_eq_true rfl) (Nat.le_of_ble_eq_true rfl) (Nat.le_of_ble_eq_true rfl) (Nat.le_of_ble_eq_true rfl) ⟨[], 0, 10, 13, [], rfl, (fun z hz => absurd hz List.not_mem_nil), by decide, by decide, zX_l.1, zb_I⟩ (Or.inl ⟨_, dL_order_13, by decide, dL_order_15, dL_order_16⟩) rfl (fun h' q => ⟨rfl, rfl, q⟩)
set_option maxHeartbeats 8000000 in
set_option maxRecDepth 100000 in
theorem q_rootI {n tc : Nat} {wd pt tf : Nat → Nat} {Q : Nat → Int} {qn : Nat → Bool} {L : List Nat} {p k r : Int} {h : zH} (hH : HD h wd pt Q qn tf tc L) (hr_p : -2147483648 ≤ p ∧ p < 2147483648) (hr_k : -2147483648 ≤ k ∧ k < 2147483648) (hr_r : -2147483648 ≤ r ∧ r < 2147483648) (hx : (isP p && isP r) = false) :
    zMW yL_root cL_root 5 (some .int) [(0, 7, 10, 13), (0, 7, 14, 15)] 10 1 6 [.ref 0, .int (iI p), .int (iI k), .int (iI r)] h n (fun r9 h' n' => r9 = some (.int (iI 1)) ∧ n' = n ∧ HD h' wd pt Q qn tf tc L ∧ zFr HOL h h') := by
  obtain ⟨h_0, -⟩ := id hH
  refine zMW_of zyL_root rfl (Nat.le_of_ble_eq_true rfl) (fun X hX hE => ?_)
  refine v_aload_n dL_root_0 rfl ?_
  refine v_iload_n dL_root_1 rfl ?_
  refine v_iload_n dL_root_2 rfl ?_
  refine v_iload_n dL_root_3 rfl ?_
  exact v_cVc (av := [.int (iI p), .int (iI k), .int (iI r)]) (st := []) hE zyX8_root lL_56 h_0 rfl (x_HrootI (d := 9) hH hr_p hr_k hr_r hx (by decide)) dL_root_4 rfl rfl (Nat.le_of_ble_eq_true rfl) (Nat.le_of_ble_eq_true rfl) (Nat.le_of_ble_eq_true rfl) (Nat.le_of_ble_eq_true rfl) ⟨[], 0, 7, 13, [(0, 7, 14, 15)], rfl, (fun z hz => absurd hz List.not_mem_nil), by decide, by decide, zX_l.1, zb_I⟩ (Or.inl ⟨_, dL_root_10, by decide, dL_root_12, dL_root_13⟩) rfl (fun h' q => ⟨rfl, rfl, q⟩)
set_option maxHeartbeats 8000000 in
set_option maxRecDepth 100000 in
theorem q_rootA {n tc : Nat} {wd pt tf : Nat → Nat} {Q : Nat → Int} {qn : Nat → Bool} {L : List Nat} {p k r : Int} {h : zH} (hH : HD h wd pt Q qn tf tc L) (hr_p : -2147483648 ≤ p ∧ p < 2147483648) (hr_k : -2147483648 ≤ k ∧ k < 2147483648) (hr_r : -2147483648 ≤ r ∧ r < 2147483648) (hb0 : isP p = true) (hb1 : isP r = true) (hx : ¬ (1 ≤ k ∧ k ≤ 8)) :
    zMW yL_root cL_root 5 (some .int) [(0, 7, 10, 13), (0, 7, 14, 15)] 10 1 6 [.ref 0, .int (iI p), .int (iI k), .int (iI r)] h n (fun r9 h' n' => r9 = some (.int (iI 2)) ∧ n' = n ∧ HD h' wd pt Q qn tf tc L ∧ zFr HOL h h') := by
  obtain ⟨h_0, -⟩ := id hH
  refine zMW_of zyL_root rfl (Nat.le_of_ble_eq_true rfl) (fun X hX hE => ?_)
  refine v_aload_n dL_root_0 rfl ?_
  refine v_iload_n dL_root_1 rfl ?_
  refine v_iload_n dL_root_2 rfl ?_
  refine v_iload_n dL_root_3 rfl ?_
  exact v_cVc (av := [.int (iI p), .int (iI k), .int (iI r)]) (st := []) hE zyX8_root lL_56 h_0 rfl (x_HrootA (d := 9) hH hr_p hr_k hr_r hb0 hb1 hx (by decide)) dL_root_4 rfl rfl (Nat.le_of_ble_eq_true rfl) (Nat.le_of_ble_eq_true rfl) (Nat.le_of_ble_eq_true rfl) (Nat.le_of_ble_eq_true rfl) ⟨[(0, 7, 10, 13)], 0, 7, 15, [], rfl, (fun z hz => by rw [List.mem_singleton.mp hz]; exact ⟨by decide, XI, zX_l.1, zn_A⟩), by decide, by decide, zX_l.2.1, zb_A⟩ (Or.inl ⟨_, dL_root_14, by decide, dL_root_16, dL_root_17⟩) rfl (fun h' q => ⟨rfl, rfl, q⟩)
set_option maxHeartbeats 8000000 in
set_option maxRecDepth 100000 in
theorem q_underI {n tc : Nat} {wd pt tf : Nat → Nat} {Q : Nat → Int} {qn : Nat → Bool} {L : List Nat} {p r : Int} {h : zH} (hH : HD h wd pt Q qn tf tc L) (hr_p : -2147483648 ≤ p ∧ p < 2147483648) (hr_r : -2147483648 ≤ r ∧ r < 2147483648) (hx : (isP p && isP r) = false) :
    zMW yL_under cL_under 4 (some .int) [(0, 6, 9, 13)] 10 1 6 [.ref 0, .int (iI p), .int (iI r)] h n (fun r9 h' n' => r9 = some (.int (iI 1)) ∧ n' = n ∧ HD h' wd pt Q qn tf tc L ∧ zFr HOL h h') := by
  obtain ⟨h_0, -⟩ := id hH
  refine zMW_of zyL_under rfl (Nat.le_of_ble_eq_true rfl) (fun X hX hE => ?_)
  refine v_aload_n dL_under_0 rfl ?_
  refine v_iload_n dL_under_1 rfl ?_
  refine v_iload_n dL_under_2 rfl ?_
  exact v_cVc (av := [.int (iI p), .int (iI r)]) (st := []) hE zyX8_under lL_59 h_0 rfl (x_HunderI (d := 9) hH hr_p hr_r hx (by decide)) dL_under_3 rfl rfl (Nat.le_of_ble_eq_true rfl) (Nat.le_of_ble_eq_true rfl) (Nat.le_of_ble_eq_true rfl) (Nat.le_of_ble_eq_true rfl) ⟨[], 0, 6, 13, [], rfl, (fun z hz => absurd hz List.not_mem_nil), by decide, by decide, zX_l.1, zb_I⟩ (Or.inr ⟨_, dL_under_9, by decide, dL_under_10, dL_under_11⟩) rfl (fun h' q => ⟨rfl, rfl, q⟩)
set_option maxHeartbeats 8000000 in
set_option maxRecDepth 100000 in
theorem q_powerI {n tc : Nat} {wd pt tf : Nat → Nat} {Q : Nat → Int} {qn : Nat → Bool} {L : List Nat} {p k r : Int} {h : zH} (hH : HD h wd pt Q qn tf tc L) (hr_p : -2147483648 ≤ p ∧ p < 2147483648) (hr_k : -2147483648 ≤ k ∧ k < 2147483648) (hr_r : -2147483648 ≤ r ∧ r < 2147483648) (hx : (isP p && isP r) = false) :
    zMW yL_power cL_power 5 (some .int) [(0, 7, 10, 13), (0, 7, 14, 15)] 10 1 6 [.ref 0, .int (iI p), .int (iI k), .int (iI r)] h n (fun r9 h' n' => r9 = some (.int (iI 1)) ∧ n' = n ∧ HD h' wd pt Q qn tf tc L ∧ zFr HOL h h') := by
  obtain ⟨h_0, -⟩ := id hH
  refine zMW_of zyL_power rfl (Nat.le_of_ble_eq_true rfl) (fun X hX hE => ?_)
  refine v_aload_n dL_power_0 rfl ?_
  refine v_iload_n dL_power_1 rfl ?_
  refine v_iload_n dL_power_2 rfl ?_
  refine v_iload_n dL_power_3 rfl ?_
  exact v_cVc (av := [.int (iI p), .int (iI k), .int (iI r)]) (st := []) hE zyX8_power lL_66 h_0 rfl (x_HpowerI (d := 9) hH hr_p hr_k hr_r hx (by decide)) dL_power_4 rfl rfl (Nat.le_of_ble_eq_true rfl) (Nat.le_of_ble_eq_true rfl) (Nat.le_of_ble_eq_true rfl) (Nat.le_of_ble_eq_true rfl) ⟨[], 0, 7, 13, [(0, 7, 14, 15)], rfl, (fun z hz => absurd hz List.not_mem_nil), by decide, by decide, zX_l.1, zb_I⟩ (Or.inl ⟨_, dL_power_10, by decide, dL_power_12, dL_power_13⟩) rfl (fun h' q => ⟨rfl, rfl, q⟩)
set_option maxHeartbeats 8000000 in
set_option maxRecDepth 100000 in
theorem q_powerA {n tc : Nat} {wd pt tf : Nat → Nat} {Q : Nat → Int} {qn : Nat → Bool} {L : List Nat} {p k r : Int} {h : zH} (hH : HD h wd pt Q qn tf tc L) (hr_p : -2147483648 ≤ p ∧ p < 2147483648) (hr_k : -2147483648 ≤ k ∧ k < 2147483648) (hr_r : -2147483648 ≤ r ∧ r < 2147483648) (hb0 : isP p = true) (hb1 : isP r = true) (hx : ¬ (-16 ≤ k ∧ k ≤ 16)) :
    zMW yL_power cL_power 5 (some .int) [(0, 7, 10, 13), (0, 7, 14, 15)] 10 1 6 [.ref 0, .int (iI p), .int (iI k), .int (iI r)] h n (fun r9 h' n' => r9 = some (.int (iI 2)) ∧ n' = n ∧ HD h' wd pt Q qn tf tc L ∧ zFr HOL h h') := by
  obtain ⟨h_0, -⟩ := id hH
  refine zMW_of zyL_power rfl (Nat.le_of_ble_eq_true rfl) (fun X hX hE => ?_)
  refine v_aload_n dL_power_0 rfl ?_
  refine v_iload_n dL_power_1 rfl ?_
  refine v_iload_n dL_power_2 rfl ?_
  refine v_iload_n dL_power_3 rfl ?_
  exact v_cVc (av := [.int (iI p), .int (iI k), .int (iI r)]) (st := []) hE zyX8_power lL_66 h_0 rfl (x_HpowerA (d := 9) hH hr_p hr_k hr_r hb0 hb1 hx (by decide)) dL_power_4 rfl rfl (Nat.le_of_ble_eq_true rfl) (Nat.le_of_ble_eq_true rfl) (Nat.le_of_ble_eq_true rfl) (Nat.le_of_ble_eq_true rfl) ⟨[(0, 7, 10, 13)], 0, 7, 15, [], rfl, (fun z hz => by rw [List.mem_singleton.mp hz]; exact ⟨by decide, XI, zX_l.1, zn_A⟩), by decide, by decide, zX_l.2.1, zb_A⟩ (Or.inl ⟨_, dL_power_14, by decide, dL_power_16, dL_power_17⟩) rfl (fun h' q => ⟨rfl, rfl, q⟩)
set_option maxHeartbeats 8000000 in
set_option maxRecDepth 100000 in
theorem q_turnI {n tc : Nat} {wd pt tf : Nat → Nat} {Q : Nat → Int} {qn : Nat → Bool} {L : List Nat} {r m : Int} {h : zH} (hH : HD h wd pt Q qn tf tc L) (hr_r : -2147483648 ≤ r ∧ r < 2147483648) (hr_m : -2147483648 ≤ m ∧ m < 2147483648) (hx : isP r = false) :
    zMW yL_turn cL_turn 4 (some .int) [(0, 6, 9, 13), (0, 6, 12, 15)] 10 1 6 [.ref 0, .int (iI r), .int (iI m)] h n (fun r9 h' n' => r9 = some (.int (iI 1)) ∧ n' = n ∧ HD h' wd pt Q qn tf tc L ∧ zFr HOL h h') := by
  obtain ⟨h_0, -⟩ := id hH
  refine zMW_of zyL_turn rfl (Nat.le_of_ble_eq_true rfl) (fun X hX hE => ?_)
  refine v_aload_n dL_turn_0 rfl ?_
  refine v_iload_n dL_turn_1 rfl ?_
  refine v_iload_n dL_turn_2 rfl ?_
  exact v_cVc (av := [.int (iI r), .int (iI m)]) (st := []) hE zyX8_turn lL_69 h_0 rfl (x_HturnI (d := 9) hH hr_r hr_m hx (by decide)) dL_turn_3 rfl rfl (Nat.le_of_ble_eq_true rfl) (Nat.le_of_ble_eq_true rfl) (Nat.le_of_ble_eq_true rfl) (Nat.le_of_ble_eq_true rfl) ⟨[], 0, 6, 13, [(0, 6, 12, 15)], rfl, (fun z hz => absurd hz List.not_mem_nil), by decide, by decide, zX_l.1, zb_I⟩ (Or.inr ⟨_, dL_turn_9, by decide, dL_turn_10, dL_turn_11⟩) rfl (fun h' q => ⟨rfl, rfl, q⟩)
set_option maxHeartbeats 8000000 in
set_option maxRecDepth 100000 in
theorem q_turnA {n tc : Nat} {wd pt tf : Nat → Nat} {Q : Nat → Int} {qn : Nat → Bool} {L : List Nat} {r m : Int} {h : zH} (hH : HD h wd pt Q qn tf tc L) (hr_r : -2147483648 ≤ r ∧ r < 2147483648) (hr_m : -2147483648 ≤ m ∧ m < 2147483648) (hb0 : isP r = true) (hx : ¬ (0 ≤ m ∧ m ≤ 7)) :
    zMW yL_turn cL_turn 4 (some .int) [(0, 6, 9, 13), (0, 6, 12, 15)] 10 1 6 [.ref 0, .int (iI r), .int (iI m)] h n (fun r9 h' n' => r9 = some (.int (iI 2)) ∧ n' = n ∧ HD h' wd pt Q qn tf tc L ∧ zFr HOL h h') := by
  obtain ⟨h_0, -⟩ := id hH
  refine zMW_of zyL_turn rfl (Nat.le_of_ble_eq_true rfl) (fun X hX hE => ?_)
  refine v_aload_n dL_turn_0 rfl ?_
  refine v_iload_n dL_turn_1 rfl ?_
  refine v_iload_n dL_turn_2 rfl ?_
  exact v_cVc (av := [.int (iI r), .int (iI m)]) (st := []) hE zyX8_turn lL_69 h_0 rfl (x_HturnA (d := 9) hH hr_r hr_m hb0 hx (by decide)) dL_turn_3 rfl rfl (Nat.le_of_ble_eq_true rfl) (Nat.le_of_ble_eq_true rfl) (Nat.le_of_ble_eq_true rfl) (Nat.le_of_ble_eq_true rfl) ⟨[(0, 6, 9, 13)], 0, 6, 15, [], rfl, (fun z hz => by rw [List.mem_singleton.mp hz]; exact ⟨by decide, XI, zX_l.1, zn_A⟩), by decide, by decide, zX_l.2.1, zb_A⟩ (Or.inr ⟨_, dL_turn_12, by decide, dL_turn_13, dL_turn_14⟩) rfl (fun h' q => ⟨rfl, rfl, q⟩)
set_option maxHeartbeats 8000000 in
set_option maxRecDepth 100000 in
theorem q_clearI {n tc : Nat} {wd pt tf : Nat → Nat} {Q : Nat → Int} {qn : Nat → Bool} {L : List Nat} {k : Int} {h : zH} (hH : HD h wd pt Q qn tf tc L) (hr_k : -2147483648 ≤ k ∧ k < 2147483648) (hx : isQ k = false) :
    zMW yL_clear cL_clear 3 (some .int) [(0, 5, 8, 13)] 10 1 6 [.ref 0, .int (iI k)] h n (fun r9 h' n' => r9 = some (.int (iI 1)) ∧ n' = n ∧ HD h' wd pt Q qn tf tc L ∧ zFr HOL h h') := by
  obtain ⟨h_0, -⟩ := id hH
  refine zMW_of zyL_clear rfl (Nat.le_of_ble_eq_true rfl) (fun X hX hE => ?_)
  refine v_aload_n dL_clear_0 rfl ?_
  refine v_iload_n dL_clear_1 rfl ?_
  exact v_cVc (av := [.int (iI k)]) (st := []) hE zyX8_clear lL_72 h_0 rfl (x_HclearI (d := 9) hH hr_k hx (by decide)) dL_clear_2 rfl rfl (Nat.le_of_ble_eq_true rfl) (Nat.le_of_ble_eq_true rfl) (Nat.le_of_ble_eq_true rfl) (Nat.le_of_ble_eq_true rfl) ⟨[], 0, 5, 13, [], rfl, (fun z hz => absurd hz List.not_mem_nil), by decide, by decide, zX_l.1, zb_I⟩ (Or.inr ⟨_, dL_clear_8, by decide, dL_clear_9, dL_clear_10⟩) rfl (fun h' q => ⟨rfl, rfl, q⟩)
set_option maxHeartbeats 8000000 in
set_option maxRecDepth 100000 in
theorem q_settleI {n tc : Nat} {wd pt tf : Nat → Nat} {Q : Nat → Int} {qn : Nat → Bool} {L : List Nat} {k r : Int} {h : zH} (hH : HD h wd pt Q qn tf tc L) (hr_k : -2147483648 ≤ k ∧ k < 2147483648) (hr_r : -2147483648 ≤ r ∧ r < 2147483648) (hx : (isQ k && isP r) = false) :
    zMW yL_settle cL_settle 4 (some .int) [(0, 6, 9, 13)] 10 1 6 [.ref 0, .int (iI k), .int (iI r)] h n (fun r9 h' n' => r9 = some (.int (iI 1)) ∧ n' = n ∧ HD h' wd pt Q qn tf tc L ∧ zFr HOL h h') := by
  obtain ⟨h_0, -⟩ := id hH
  refine zMW_of zyL_settle rfl (Nat.le_of_ble_eq_true rfl) (fun X hX hE => ?_)
  refine v_aload_n dL_settle_0 rfl ?_
  refine v_iload_n dL_settle_1 rfl ?_
  refine v_iload_n dL_settle_2 rfl ?_
  exact v_cVc (av := [.int (iI k), .int (iI r)]) (st := []) hE zyX8_settle lL_84 h_0 rfl (x_HsettleI (d := 9) hH hr_k hr_r hx (by decide)) dL_settle_3 rfl rfl (Nat.le_of_ble_eq_true rfl) (Nat.le_of_ble_eq_true rfl) (Nat.le_of_ble_eq_true rfl) (Nat.le_of_ble_eq_true rfl) ⟨[], 0, 6, 13, [], rfl, (fun z hz => absurd hz List.not_mem_nil), by decide, by decide, zX_l.1, zb_I⟩ (Or.inr ⟨_, dL_settle_9, by decide, dL_settle_10, dL_settle_11⟩) rfl (fun h' q => ⟨rfl, rfl, q⟩)
set_option maxHeartbeats 8000000 in
set_option maxRecDepth 100000 in
theorem q_imageI {n tc : Nat} {wd pt tf : Nat → Nat} {Q : Nat → Int} {qn : Nat → Bool} {L : List Nat} {k i : Int} {h : zH} (hH : HD h wd pt Q qn tf tc L) (hr_k : -2147483648 ≤ k ∧ k < 2147483648) (hr_i : -2147483648 ≤ i ∧ i < 2147483648) (hx : isQ k = false) :
    zMW yL_image cL_image 5 (some .int) [(0, 10, 13, 13), (0, 10, 17, 15)] 10 1 6 [.ref 0, .int (iI k), .int (iI i), .ref 90] h n (fun r9 h' n' => r9 = some (.int (iI 1)) ∧ n' = n ∧ HD h' wd pt Q qn tf tc L ∧ zFr HOL h h') := by
  obtain ⟨h_0, -⟩ := id hH
  refine zMW_of zyL_image rfl (Nat.le_of_ble_eq_true rfl) (fun X hX hE => ?_)
  refine v_aload_n dL_image_0 rfl ?_
  refine v_iconst (iI 0) dL_image_1 rfl ?_
  refine v_aload_n dL_image_2 rfl ?_
  refine v_iload_n dL_image_3 rfl ?_
  refine v_iload_n dL_image_4 rfl ?_
  exact v_cVc (av := [.int (iI k), .int (iI i)]) (st := [.int (iI 0), .ref 90]) hE zyX8_image lL_87 h_0 rfl (x_HimageI (d := 9) hH hr_k hr_i hx (by decide)) dL_image_5 rfl rfl (Nat.le_of_ble_eq_true rfl) (Nat.le_of_ble_eq_true rfl) (Nat.le_of_ble_eq_true rfl) (Nat.le_of_ble_eq_true rfl) ⟨[], 0, 10, 13, [(0, 10, 17, 15)], rfl, (fun z hz => absurd hz List.not_mem_nil), by decide, by decide, zX_l.1, zb_I⟩ (Or.inl ⟨_, dL_image_13, by decide, dL_image_15, dL_image_16⟩) rfl (fun h' q => ⟨rfl, rfl, q⟩)
set_option maxHeartbeats 8000000 in
set_option maxRecDepth 100000 in
theorem q_imageA {n tc : Nat} {wd pt tf : Nat → Nat} {Q : Nat → Int} {qn : Nat → Bool} {L : List Nat} {k i : Int} {h : zH} (hH : HD h wd pt Q qn tf tc L) (hr_k : -2147483648 ≤ k ∧ k < 2147483648) (hr_i : -2147483648 ≤ i ∧ i < 2147483648) (hb0 : isQ k = true) (hx : ¬ (0 ≤ i ∧ i < 16)) :
    zMW yL_image cL_image 5 (some .int) [(0, 10, 13, 13), (0, 10, 17, 15)] 10 1 6 [.ref 0, .int (iI k), .int (iI i), .ref 90] h n (fun r9 h' n' => r9 = some (.int (iI 2)) ∧ n' = n ∧ HD h' wd pt Q qn tf tc L ∧ zFr HOL h h') := by
  obtain ⟨h_0, -⟩ := id hH
  refine zMW_of zyL_image rfl (Nat.le_of_ble_eq_true rfl) (fun X hX hE => ?_)
  refine v_aload_n dL_image_0 rfl ?_
  refine v_iconst (iI 0) dL_image_1 rfl ?_
  refine v_aload_n dL_image_2 rfl ?_
  refine v_iload_n dL_image_3 rfl ?_
  refine v_iload_n dL_image_4 rfl ?_
  exact v_cVc (av := [.int (iI k), .int (iI i)]) (st := [.int (iI 0), .ref 90]) hE zyX8_image lL_87 h_0 rfl (x_HimageA (d := 9) hH hr_k hr_i hb0 hx (by decide)) dL_image_5 rfl rfl (Nat.le_of_ble_eq_true rfl) (Nat.le_of_ble_eq_true rfl) (Nat.le_of_ble_eq_true rfl) (Nat.le_of_ble_eq_true rfl) ⟨[(0, 10, 13, 13)], 0, 10, 15, [], rfl, (fun z hz => by rw [List.mem_singleton.mp hz]; exact ⟨by decide, XI, zX_l.1, zn_A⟩), by decide, by decide, zX_l.2.1, zb_A⟩ (Or.inl ⟨_, dL_image_17, by decide, dL_image_19, dL_image_20⟩) rfl (fun h' q => ⟨rfl, rfl, q⟩)
set_option maxHeartbeats 8000000 in
set_option maxRecDepth 100000 in
theorem q_readI {n tc : Nat} {wd pt tf : Nat → Nat} {Q : Nat → Int} {qn : Nat → Bool} {L : List Nat} {r : Int} {h : zH} (hH : HD h wd pt Q qn tf tc L) (hr_r : -2147483648 ≤ r ∧ r < 2147483648) (hx : isP r = false) :
    zMW yL_read cL_read 4 (some .int) [(0, 9, 12, 13)] 10 1 6 [.ref 0, .int (iI r), .ref 90] h n (fun r9 h' n' => r9 = some (.int (iI 1)) ∧ n' = n ∧ HD h' wd pt Q qn tf tc L ∧ zFr HOL h h') := by
  obtain ⟨h_0, -⟩ := id hH
  refine zMW_of zyL_read rfl (Nat.le_of_ble_eq_true rfl) (fun X hX hE => ?_)
  refine v_aload_n dL_read_0 rfl ?_
  refine v_iconst (iI 0) dL_read_1 rfl ?_
  refine v_aload_n dL_read_2 rfl ?_
  refine v_iload_n dL_read_3 rfl ?_
  exact v_cVc (av := [.int (iI r)]) (st := [.int (iI 0), .ref 90]) hE zyX8_read lL_94 h_0 rfl (x_HreadI (d := 9) hH hr_r hx (by decide)) dL_read_4 rfl rfl (Nat.le_of_ble_eq_true rfl) (Nat.le_of_ble_eq_true rfl) (Nat.le_of_ble_eq_true rfl) (Nat.le_of_ble_eq_true rfl) ⟨[], 0, 9, 13, [], rfl, (fun z hz => absurd hz List.not_mem_nil), by decide, by decide, zX_l.1, zb_I⟩ (Or.inr ⟨_, dL_read_12, by decide, dL_read_13, dL_read_14⟩) rfl (fun h' q => ⟨rfl, rfl, q⟩)
set_option maxHeartbeats 8000000 in
set_option maxRecDepth 100000 in
theorem q_writeI {n tc : Nat} {wd pt tf : Nat → Nat} {Q : Nat → Int} {qn : Nat → Bool} {L : List Nat} {p : Int} {b : Bool} {h : zH} (hH : HD h wd pt Q qn tf tc L) (hr_p : -2147483648 ≤ p ∧ p < 2147483648) (hx : isP p = false) :
    zMW yL_write cL_write 5 (some .int) [(0, 10, 13, 13)] 10 1 6 [.ref 0, .int (iI p), .int (iI (bz b)), .ref 90] h n (fun r9 h' n' => r9 = some (.int (iI 1)) ∧ n' = n ∧ HD h' wd pt Q qn tf tc L ∧ zFr HOL h h') := by
  obtain ⟨h_0, -⟩ := id hH
  refine zMW_of zyL_write rfl (Nat.le_of_ble_eq_true rfl) (fun X hX hE => ?_)
  refine v_aload_n dL_write_0 rfl ?_
  refine v_iconst (iI 0) dL_write_1 rfl ?_
  refine v_aload_n dL_write_2 rfl ?_
  refine v_iload_n dL_write_3 rfl ?_
  refine v_iload_n dL_write_4 rfl ?_
  exact v_cVc (av := [.int (iI p), .int (iI (bz b))]) (st := [.int (iI 0), .ref 90]) hE zyX8_write lL_97 h_0 rfl (x_HwriteI (d := 9) hH hr_p hx (by decide)) dL_write_5 rfl rfl (Nat.le_of_ble_eq_true rfl) (Nat.le_of_ble_eq_true rfl) (Nat.le_of_ble_eq_true rfl) (Nat.le_of_ble_eq_true rfl) ⟨[], 0, 10, 13, [], rfl, (fun z hz => absurd hz List.not_mem_nil), by decide, by decide, zX_l.1, zb_I⟩ (Or.inl ⟨_, dL_write_13, by decide, dL_write_15, dL_write_16⟩) rfl (fun h' q => ⟨rfl, rfl, q⟩)
set_option maxHeartbeats 8000000 in
set_option maxRecDepth 100000 in
theorem q_gatherI {n tc : Nat} {wd pt tf : Nat → Nat} {Q : Nat → Int} {qn : Nat → Bool} {L : List Nat} {k p q : Int} {mi : Bool} {h : zH} (hH : HD h wd pt Q qn tf tc L) (hr_k : -2147483648 ≤ k ∧ k < 2147483648) (hr_p : -2147483648 ≤ p ∧ p < 2147483648) (hr_q : -2147483648 ≤ q ∧ q < 2147483648) (hx : (isQ k && (isP p && isP q)) = false) :
    zMW yL_gather cL_gather 6 (some .int) [(0, 9, 12, 13)] 10 1 6 [.ref 0, .int (iI k), .int (iI p), .int (iI q), .int (iI (bz mi))] h n (fun r9 h' n' => r9 = some (.int (iI 1)) ∧ n' = n ∧ HD h' wd pt Q qn tf tc L ∧ zFr HOL h h') := by
  obtain ⟨h_0, -⟩ := id hH
  refine zMW_of zyL_gather rfl (Nat.le_of_ble_eq_true rfl) (fun X hX hE => ?_)
  refine v_aload_n dL_gather_0 rfl ?_
  refine v_iload_n dL_gather_1 rfl ?_
  refine v_iload_n dL_gather_2 rfl ?_
  refine v_iload_n dL_gather_3 rfl ?_
  refine v_iload dL_gather_4 rfl ?_
  exact v_cVc (av := [.int (iI k), .int (iI p), .int (iI q), .int (iI (bz mi))]) (st := []) hE zyX8_gather lL_76 h_0 rfl (x_HgatherI (d := 9) hH hr_k hr_p hr_q hx (by decide)) dL_gather_6 rfl rfl (Nat.le_of_ble_eq_true rfl) (Nat.le_of_ble_eq_true rfl) (Nat.le_of_ble_eq_true rfl) (Nat.le_of_ble_eq_true rfl) ⟨[], 0, 9, 13, [], rfl, (fun z hz => absurd hz List.not_mem_nil), by decide, by decide, zX_l.1, zb_I⟩ (Or.inl ⟨_, dL_gather_12, by decide, dL_gather_14, dL_gather_15⟩) rfl (fun h' q => ⟨rfl, rfl, q⟩)
set_option maxHeartbeats 8000000 in
set_option maxRecDepth 100000 in
theorem q_dotI {n tc : Nat} {wd pt tf : Nat → Nat} {Q : Nat → Int} {qn : Nat → Bool} {L : List Nat} {k p q m : Int} {h : zH} (hH : HD h wd pt Q qn tf tc L) (hr_k : -2147483648 ≤ k ∧ k < 2147483648) (hr_p : -2147483648 ≤ p ∧ p < 2147483648) (hr_q : -2147483648 ≤ q ∧ q < 2147483648) (hr_m : -2147483648 ≤ m ∧ m < 2147483648) (hx : (isQ k && (isP p && isP q)) = false) :
    zMW yL_dot cL_dot 6 (some .int) [(0, 9, 12, 13), (0, 9, 16, 15)] 10 1 6 [.ref 0, .int (iI k), .int (iI p), .int (iI q), .int (iI m)] h n (fun r9 h' n' => r9 = some (.int (iI 1)) ∧ n' = n ∧ HD h' wd pt Q qn tf tc L ∧ zFr HOL h h') := by
  obtain ⟨h_0, -⟩ := id hH
  refine zMW_of zyL_dot rfl (Nat.le_of_ble_eq_true rfl) (fun X hX hE => ?_)
  refine v_aload_n dL_dot_0 rfl ?_
  refine v_iload_n dL_dot_1 rfl ?_
  refine v_iload_n dL_dot_2 rfl ?_
  refine v_iload_n dL_dot_3 rfl ?_
  refine v_iload dL_dot_4 rfl ?_
  exact v_cVc (av := [.int (iI k), .int (iI p), .int (iI q), .int (iI m)]) (st := []) hE zyX8_dot lL_80 h_0 rfl (x_HdotI (d := 9) hH hr_k hr_p hr_q hr_m hx (by decide)) dL_dot_6 rfl rfl (Nat.le_of_ble_eq_true rfl) (Nat.le_of_ble_eq_true rfl) (Nat.le_of_ble_eq_true rfl) (Nat.le_of_ble_eq_true rfl) ⟨[], 0, 9, 13, [(0, 9, 16, 15)], rfl, (fun z hz => absurd hz List.not_mem_nil), by decide, by decide, zX_l.1, zb_I⟩ (Or.inl ⟨_, dL_dot_12, by decide, dL_dot_14, dL_dot_15⟩) rfl (fun h' q => ⟨rfl, rfl, q⟩)
set_option maxHeartbeats 8000000 in
set_option maxRecDepth 100000 in
theorem q_dotA {n tc : Nat} {wd pt tf : Nat → Nat} {Q : Nat → Int} {qn : Nat → Bool} {L : List Nat} {k p q m : Int} {h : zH} (hH : HD h wd pt Q qn tf tc L) (hr_k : -2147483648 ≤ k ∧ k < 2147483648) (hr_p : -2147483648 ≤ p ∧ p < 2147483648) (hr_q : -2147483648 ≤ q ∧ q < 2147483648) (hr_m : -2147483648 ≤ m ∧ m < 2147483648) (hb0 : isQ k = true) (hb1 : isP p = true) (hb2 : isP q = true) (hx : ¬ (0 ≤ m ∧ m ≤ 32)) :
    zMW yL_dot cL_dot 6 (some .int) [(0, 9, 12, 13), (0, 9, 16, 15)] 10 1 6 [.ref 0, .int (iI k), .int (iI p), .int (iI q), .int (iI m)] h n (fun r9 h' n' => r9 = some (.int (iI 2)) ∧ n' = n ∧ HD h' wd pt Q qn tf tc L ∧ zFr HOL h h') := by
  obtain ⟨h_0, -⟩ := id hH
  refine zMW_of zyL_dot rfl (Nat.le_of_ble_eq_true rfl) (fun X hX hE => ?_)
  refine v_aload_n dL_dot_0 rfl ?_
  refine v_iload_n dL_dot_1 rfl ?_
  refine v_iload_n dL_dot_2 rfl ?_
  refine v_iload_n dL_dot_3 rfl ?_
  refine v_iload dL_dot_4 rfl ?_
  exact v_cVc (av := [.int (iI k), .int (iI p), .int (iI q), .int (iI m)]) (st := []) hE zyX8_dot lL_80 h_0 rfl (x_HdotA (d := 9) hH hr_k hr_p hr_q hr_m hb0 hb1 hb2 hx (by decide)) dL_dot_6 rfl rfl (Nat.le_of_ble_eq_true rfl) (Nat.le_of_ble_eq_true rfl) (Nat.le_of_ble_eq_true rfl) (Nat.le_of_ble_eq_true rfl) ⟨[(0, 9, 12, 13)], 0, 9, 15, [], rfl, (fun z hz => by rw [List.mem_singleton.mp hz]; exact ⟨by decide, XI, zX_l.1, zn_A⟩), by decide, by decide, zX_l.2.1, zb_A⟩ (Or.inl ⟨_, dL_dot_16, by decide, dL_dot_18, dL_dot_19⟩) rfl (fun h' q => ⟨rfl, rfl, q⟩)
set_option maxHeartbeats 8000000 in
set_option maxRecDepth 100000 in
theorem q_dotJ {n tc : Nat} {wd pt tf : Nat → Nat} {Q : Nat → Int} {qn : Nat → Bool} {L : List Nat} {k p q m : Int} {h : zH} (hH : HD h wd pt Q qn tf tc L) (hr_k : -2147483648 ≤ k ∧ k < 2147483648) (hr_p : -2147483648 ≤ p ∧ p < 2147483648) (hr_q : -2147483648 ≤ q ∧ q < 2147483648) (hr_m : -2147483648 ≤ m ∧ m < 2147483648) (hb0 : isQ k = true) (hb1 : isP p = true) (hb2 : isP q = true) (hm : 0 < m ∧ m ≤ 32) (hx : 32 < p + m ∨ 32 < q + m) :
    zMW yL_dot cL_dot 6 (some .int) [(0, 9, 12, 13), (0, 9, 16, 15)] 10 1 6 [.ref 0, .int (iI k), .int (iI p), .int (iI q), .int (iI m)] h n (fun r9 h' n' => r9 = some (.int (iI 1)) ∧ n' = n ∧ HD h' wd pt Q qn tf tc L ∧ zFr HOL h h') := by
  obtain ⟨h_0, -⟩ := id hH
  refine zMW_of zyL_dot rfl (Nat.le_of_ble_eq_true rfl) (fun X hX hE => ?_)
  refine v_aload_n dL_dot_0 rfl ?_
  refine v_iload_n dL_dot_1 rfl ?_
  refine v_iload_n dL_dot_2 rfl ?_
  refine v_iload_n dL_dot_3 rfl ?_
  refine v_iload dL_dot_4 rfl ?_
  exact v_cVc (av := [.int (iI k), .int (iI p), .int (iI q), .int (iI m)]) (st := []) hE zyX8_dot lL_80 h_0 rfl (x_HdotJ (d := 9) hH hr_k hr_p hr_q hr_m hb0 hb1 hb2 hm hx (by decide)) dL_dot_6 rfl rfl (Nat.le_of_ble_eq_true rfl) (Nat.le_of_ble_eq_true rfl) (Nat.le_of_ble_eq_true rfl) (Nat.le_of_ble_eq_true rfl) ⟨[], 0, 9, 13, [(0, 9, 16, 15)], rfl, (fun z hz => absurd hz List.not_mem_nil), by decide, by decide, zX_l.1, zb_I⟩ (Or.inl ⟨_, dL_dot_12, by decide, dL_dot_14, dL_dot_15⟩) rfl (fun h' q => ⟨rfl, rfl, q⟩)
set_option maxHeartbeats 8000000 in
set_option maxRecDepth 100000 in
theorem q_feedA {n tc : Nat} {wd pt tf : Nat → Nat} {Q : Nat → Int} {qn : Nat → Bool} {L : List Nat} {x m : Int} {h : zH} (hH : HD h wd pt Q qn tf tc L) (hr_m : -2147483648 ≤ m ∧ m < 2147483648) (hx : fdOk tc m = false) (htc : tc ≤ 80) :
    zMW yL_feed cL_feed 6 (some .int) [(0, 11, 14, 15)] 10 1 6 [.ref 0, .long (jL x), .int (iI m), .ref 90] h n (fun r9 h' n' => r9 = some (.int (iI 1)) ∧ n' = n ∧ HD h' wd pt Q qn tf tc L ∧ zFr HOL h h') := by
  obtain ⟨h_0, -⟩ := id hH
  refine zMW_of zyL_feed rfl (Nat.le_of_ble_eq_true rfl) (fun X hX hE => ?_)
  refine v_aload dL_feed_0 rfl ?_
  refine v_iconst (iI 0) dL_feed_2 rfl ?_
  refine v_aload_n dL_feed_3 rfl ?_
  refine v_lload_n dL_feed_4 rfl ?_
  refine v_iload_n dL_feed_5 rfl ?_
  exact v_cVc (av := [.long (jL x), .int (iI m)]) (st := [.int (iI 0), .ref 90]) hE zyX8_feed lL_90 h_0 rfl (x_HfeedA (d := 9) hH hr_m hx htc (by decide)) dL_feed_6 rfl rfl (Nat.le_of_ble_eq_true rfl) (Nat.le_of_ble_eq_true rfl) (Nat.le_of_ble_eq_true rfl) (Nat.le_of_ble_eq_true rfl) ⟨[], 0, 11, 15, [], rfl, (fun z hz => absurd hz List.not_mem_nil), by decide, by decide, zX_l.2.1, zb_A⟩ (Or.inl ⟨_, dL_feed_14, by decide, dL_feed_16, dL_feed_17⟩) rfl (fun h' q => ⟨rfl, rfl, q⟩)
set_option maxHeartbeats 8000000 in
set_option maxRecDepth 100000 in
theorem q_add {n tc a1 a2 a3 : Nat} {wd pt tf : Nat → Nat} {Q : Nat → Int} {qn : Nat → Bool} {L : List Nat} {h : zH} (hH : HD h wd pt Q qn tf tc L) (hPL : PL wd pt) (h1 : a1 < 32) (h2 : a2 < 32) (h3 : a3 < 32) :
    zMW yL_add cL_add 5 (some .int) [(0, 7, 10, 13)] 10 1 6 [.ref 0, .int (iI (a1:Nat)), .int (iI (a2:Nat)), .int (iI (a3:Nat))] h n (fun r9 h' n' => r9 = some (.int (iI 0)) ∧ n' = n ∧ HD h' wd (zup pt a3 (mjn wd pt a1 a2 a3 1)) Q qn tf tc L ∧ zFr HOL h h') := by
  obtain ⟨h_0, -⟩ := id hH
  refine zMW_of zyL_add rfl (Nat.le_of_ble_eq_true rfl) (fun X hX hE => ?_)
  refine v_aload_n dL_add_0 rfl ?_
  refine v_iload_n dL_add_1 rfl ?_
  refine v_iload_n dL_add_2 rfl ?_
  refine v_iload_n dL_add_3 rfl ?_
  refine v_cV (av := [.int (iI (a1:Nat)), .int (iI (a2:Nat)), .int (iI (a3:Nat))]) (st := []) zyX8_add lL_41 h_0 rfl (p_Hadd (d := 9) hH hPL h1 h2 h3 (by decide)) dL_add_4 rfl rfl (Nat.le_of_ble_eq_true rfl) (by omega) (Nat.le_of_ble_eq_true rfl) (Nat.le_of_ble_eq_true rfl) (Or.inl (fun _ _ _ q => ZN q)) (fun r9 G1 n9 q9 => ?_)
  obtain ⟨rfl, q9n, hH9, fr9⟩ := q9
  have q9n := q9n.symm
  subst q9n
  refine v_goto 14 dL_add_7 (by decide) ?_
  refine v_iconst (iI 0) dL_add_14 rfl ?_
  exact v_iret dL_add_15 trivial (Nat.le_of_ble_eq_true rfl) (Nat.le_of_ble_eq_true rfl) ⟨rfl, rfl, hH9, fr9⟩
set_option maxHeartbeats 8000000 in
set_option maxRecDepth 100000 in
theorem q_less {n tc a1 a2 a3 : Nat} {wd pt tf : Nat → Nat} {Q : Nat → Int} {qn : Nat → Bool} {L : List Nat} {h : zH} (hH : HD h wd pt Q qn tf tc L) (hPL : PL wd pt) (h1 : a1 < 32) (h2 : a2 < 32) (h3 : a3 < 32) :
    zMW yL_less cL_less 5 (some .int) [(0, 7, 10, 13)] 10 1 6 [.ref 0, .int (iI (a1:Nat)), .int (iI (a2:Nat)), .int (iI (a3:Nat))] h n (fun r9 h' n' => r9 = some (.int (iI 0)) ∧ n' = n ∧ HD h' wd (zup pt a3 (mjn wd pt a1 a2 a3 (-1))) Q qn tf tc L ∧ zFr HOL h h') := by
  obtain ⟨h_0, -⟩ := id hH
  refine zMW_of zyL_less rfl (Nat.le_of_ble_eq_true rfl) (fun X hX hE => ?_)
  refine v_aload_n dL_less_0 rfl ?_
  refine v_iload_n dL_less_1 rfl ?_
  refine v_iload_n dL_less_2 rfl ?_
  refine v_iload_n dL_less_3 rfl ?_
  refine v_cV (av := [.int (iI (a1:Nat)), .int (iI (a2:Nat)), .int (iI (a3:Nat))]) (st := []) zyX8_less lL_44 h_0 rfl (p_Hless (d := 9) hH hPL h1 h2 h3 (by decide)) dL_less_4 rfl rfl (Nat.le_of_ble_eq_true rfl) (by omega) (Nat.le_of_ble_eq_true rfl) (Nat.le_of_ble_eq_true rfl) (Or.inl (fun _ _ _ q => ZN q)) (fun r9 G1 n9 q9 => ?_)
  obtain ⟨rfl, q9n, hH9, fr9⟩ := q9
  have q9n := q9n.symm
  subst q9n
  refine v_goto 14 dL_less_7 (by decide) ?_
  refine v_iconst (iI 0) dL_less_14 rfl ?_
  exact v_iret dL_less_15 trivial (Nat.le_of_ble_eq_true rfl) (Nat.le_of_ble_eq_true rfl) ⟨rfl, rfl, hH9, fr9⟩
set_option maxHeartbeats 8000000 in
set_option maxRecDepth 100000 in
theorem q_times {n tc a1 a2 a3 : Nat} {wd pt tf : Nat → Nat} {Q : Nat → Int} {qn : Nat → Bool} {L : List Nat} {h : zH} (hH : HD h wd pt Q qn tf tc L) (hPL : PL wd pt) (h1 : a1 < 32) (h2 : a2 < 32) (h3 : a3 < 32) :
    zMW yL_times cL_times 5 (some .int) [(0, 7, 10, 13)] 10 1 6 [.ref 0, .int (iI (a1:Nat)), .int (iI (a2:Nat)), .int (iI (a3:Nat))] h n (fun r9 h' n' => r9 = some (.int (iI 0)) ∧ n' = n ∧ HD h' wd (zup pt a3 (mtm wd pt a1 a2 a3)) Q qn tf tc L ∧ zFr HOL h h') := by
  obtain ⟨h_0, -⟩ := id hH
  refine zMW_of zyL_times rfl (Nat.le_of_ble_eq_true rfl) (fun X hX hE => ?_)
  refine v_aload_n dL_times_0 rfl ?_
  refine v_iload_n dL_times_1 rfl ?_
  refine v_iload_n dL_times_2 rfl ?_
  refine v_iload_n dL_times_3 rfl ?_
  refine v_cV (av := [.int (iI (a1:Nat)), .int (iI (a2:Nat)), .int (iI (a3:Nat))]) (st := []) zyX8_times lL_47 h_0 rfl (p_Htimes (d := 9) hH hPL h1 h2 h3 (by decide)) dL_times_4 rfl rfl (Nat.le_of_ble_eq_true rfl) (by omega) (Nat.le_of_ble_eq_true rfl) (Nat.le_of_ble_eq_true rfl) (Or.inl (fun _ _ _ q => ZN q)) (fun r9 G1 n9 q9 => ?_)
  obtain ⟨rfl, q9n, hH9, fr9⟩ := q9
  have q9n := q9n.symm
  subst q9n
  refine v_goto 14 dL_times_7 (by decide) ?_
  refine v_iconst (iI 0) dL_times_14 rfl ?_
  exact v_iret dL_times_15 trivial (Nat.le_of_ble_eq_true rfl) (Nat.le_of_ble_eq_true rfl) ⟨rfl, rfl, hH9, fr9⟩
set_option maxHeartbeats 8000000 in
set_option maxRecDepth 100000 in
theorem q_over {n tc a1 a2 a3 : Nat} {wd pt tf : Nat → Nat} {Q : Nat → Int} {qn : Nat → Bool} {L : List Nat} {h : zH} (hH : HD h wd pt Q qn tf tc L) (hPL : PL wd pt) (h1 : a1 < 32) (h2 : a2 < 32) (h3 : a3 < 32) :
    zMW yL_over cL_over 5 (some .int) [(0, 7, 10, 13)] 10 1 6 [.ref 0, .int (iI (a1:Nat)), .int (iI (a2:Nat)), .int (iI (a3:Nat))] h n (fun r9 h' n' => r9 = some (.int (iI 0)) ∧ n' = n ∧ HD h' wd (zup pt a3 (mov wd pt a1 a2 a3)) Q qn tf tc L ∧ zFr HOL h h') := by
  obtain ⟨h_0, -⟩ := id hH
  refine zMW_of zyL_over rfl (Nat.le_of_ble_eq_true rfl) (fun X hX hE => ?_)
  refine v_aload_n dL_over_0 rfl ?_
  refine v_iload_n dL_over_1 rfl ?_
  refine v_iload_n dL_over_2 rfl ?_
  refine v_iload_n dL_over_3 rfl ?_
  refine v_cV (av := [.int (iI (a1:Nat)), .int (iI (a2:Nat)), .int (iI (a3:Nat))]) (st := []) zyX8_over lL_50 h_0 rfl (p_Hover (d := 9) hH hPL h1 h2 h3 (by decide)) dL_over_4 rfl rfl (Nat.le_of_ble_eq_true rfl) (by omega) (Nat.le_of_ble_eq_true rfl) (Nat.le_of_ble_eq_true rfl) (Or.inl (fun _ _ _ q => ZN q)) (fun r9 G1 n9 q9 => ?_)
  obtain ⟨rfl, q9n, hH9, fr9⟩ := q9
  have q9n := q9n.symm
  subst q9n
  refine v_goto 14 dL_over_7 (by decide) ?_
  refine v_iconst (iI 0) dL_over_14 rfl ?_
  exact v_iret dL_over_15 trivial (Nat.le_of_ble_eq_true rfl) (Nat.le_of_ble_eq_true rfl) ⟨rfl, rfl, hH9, fr9⟩
set_option maxHeartbeats 8000000 in
set_option maxRecDepth 100000 in
theorem q_fused {n tc a1 a2 a3 : Nat} {wd pt tf : Nat → Nat} {Q : Nat → Int} {qn : Nat → Bool} {L : List Nat} {h : zH} (hH : HD h wd pt Q qn tf tc L) (hPL : PL wd pt) (h1 : a1 < 32) (h2 : a2 < 32) (h3 : a3 < 32) :
    zMW yL_fused cL_fused 5 (some .int) [(0, 7, 10, 13)] 10 1 6 [.ref 0, .int (iI (a1:Nat)), .int (iI (a2:Nat)), .int (iI (a3:Nat))] h n (fun r9 h' n' => r9 = some (.int (iI 0)) ∧ n' = n ∧ HD h' wd (zup pt a3 (mfu wd pt a1 a2 a3)) Q qn tf tc L ∧ zFr HOL h h') := by
  obtain ⟨h_0, -⟩ := id hH
  refine zMW_of zyL_fused rfl (Nat.le_of_ble_eq_true rfl) (fun X hX hE => ?_)
  refine v_aload_n dL_fused_0 rfl ?_
  refine v_iload_n dL_fused_1 rfl ?_
  refine v_iload_n dL_fused_2 rfl ?_
  refine v_iload_n dL_fused_3 rfl ?_
  refine v_cV (av := [.int (iI (a1:Nat)), .int (iI (a2:Nat)), .int (iI (a3:Nat))]) (st := []) zyX8_fused lL_53 h_0 rfl (p_Hfused (d := 9) hH hPL h1 h2 h3 (by decide)) dL_fused_4 rfl rfl (Nat.le_of_ble_eq_true rfl) (by omega) (Nat.le_of_ble_eq_true rfl) (Nat.le_of_ble_eq_true rfl) (Or.inl (fun _ _ _ q => ZN q)) (fun r9 G1 n9 q9 => ?_)
  obtain ⟨rfl, q9n, hH9, fr9⟩ := q9
  have q9n := q9n.symm
  subst q9n
  refine v_goto 14 dL_fused_7 (by decide) ?_
  refine v_iconst (iI 0) dL_fused_14 rfl ?_
  exact v_iret dL_fused_15 trivial (Nat.le_of_ble_eq_true rfl) (Nat.le_of_ble_eq_true rfl) ⟨rfl, rfl, hH9, fr9⟩
set_option maxHeartbeats 8000000 in
set_option maxRecDepth 100000 in
theorem q_far {n tc a1 a2 a3 : Nat} {wd pt tf : Nat → Nat} {Q : Nat → Int} {qn : Nat → Bool} {L : List Nat} {h : zH} (hH : HD h wd pt Q qn tf tc L) (hPL : PL wd pt) (h1 : a1 < 32) (h2 : a2 < 32) (h3 : a3 < 32) :
    zMW yL_far cL_far 5 (some .int) [(0, 7, 10, 13)] 10 1 6 [.ref 0, .int (iI (a1:Nat)), .int (iI (a2:Nat)), .int (iI (a3:Nat))] h n (fun r9 h' n' => r9 = some (.int (iI 0)) ∧ n' = n ∧ HD h' wd (zup pt a3 (mfa wd pt a1 a2 a3)) Q qn tf tc L ∧ zFr HOL h h') := by
  obtain ⟨h_0, -⟩ := id hH
  refine zMW_of zyL_far rfl (Nat.le_of_ble_eq_true rfl) (fun X hX hE => ?_)
  refine v_aload_n dL_far_0 rfl ?_
  refine v_iload_n dL_far_1 rfl ?_
  refine v_iload_n dL_far_2 rfl ?_
  refine v_iload_n dL_far_3 rfl ?_
  refine v_cV (av := [.int (iI (a1:Nat)), .int (iI (a2:Nat)), .int (iI (a3:Nat))]) (st := []) zyX8_far lL_63 h_0 rfl (p_Hfar (d := 9) hH hPL h1 h2 h3 (by decide)) dL_far_4 rfl rfl (Nat.le_of_ble_eq_true rfl) (by omega) (Nat.le_of_ble_eq_true rfl) (Nat.le_of_ble_eq_true rfl) (Or.inl (fun _ _ _ q => ZN q)) (fun r9 G1 n9 q9 => ?_)
  obtain ⟨rfl, q9n, hH9, fr9⟩ := q9
  have q9n := q9n.symm
  subst q9n
  refine v_goto 14 dL_far_7 (by decide) ?_
  refine v_iconst (iI 0) dL_far_14 rfl ?_
  exact v_iret dL_far_15 trivial (Nat.le_of_ble_eq_true rfl) (Nat.le_of_ble_eq_true rfl) ⟨rfl, rfl, hH9, fr9⟩
set_option maxHeartbeats 8000000 in
set_option maxRecDepth 100000 in
theorem q_set {n tc a3 w : Nat} {wd pt tf : Nat → Nat} {Q : Nat → Int} {qn : Nat → Bool} {L : List Nat} {b9 : Int} {h : zH} (hH : HD h wd pt Q qn tf tc L) (h3 : a3 < 32) (hw : 3 ≤ w ∧ w ≤ 32) (hb : -2147483648 ≤ b9 ∧ b9 < 2147483648) :
    zMW yL_set cL_set 5 (some .int) [(0, 7, 10, 13), (0, 7, 14, 15)] 10 1 6 [.ref 0, .int (iI (a3:Nat)), .int (iI (w:Nat)), .int (iI b9)] h n (fun r9 h' n' => r9 = some (.int (iI 0)) ∧ n' = n ∧ HD h' (zup wd a3 w) (zup pt a3 (b9 % (2 ^ w : Nat)).toNat) Q qn tf tc L ∧ zFr HOL h h') := by
  obtain ⟨h_0, -⟩ := id hH
  refine zMW_of zyL_set rfl (Nat.le_of_ble_eq_true rfl) (fun X hX hE => ?_)
  refine v_aload_n dL_set_0 rfl ?_
  refine v_iload_n dL_set_1 rfl ?_
  refine v_iload_n dL_set_2 rfl ?_
  refine v_iload_n dL_set_3 rfl ?_
  refine v_cV (av := [.int (iI (a3:Nat)), .int (iI (w:Nat)), .int (iI b9)]) (st := []) zyX8_set lL_7 h_0 rfl (p_Hset (d := 9) hH h3 hw hb (by decide)) dL_set_4 rfl rfl (Nat.le_of_ble_eq_true rfl) (by omega) (Nat.le_of_ble_eq_true rfl) (Nat.le_of_ble_eq_true rfl) (Or.inl (fun _ _ _ q => ZN q)) (fun r9 G1 n9 q9 => ?_)
  obtain ⟨rfl, q9n, hH9, fr9⟩ := q9
  have q9n := q9n.symm
  subst q9n
  refine v_goto 18 dL_set_7 (by decide) ?_
  refine v_iconst (iI 0) dL_set_18 rfl ?_
  exact v_iret dL_set_19 trivial (Nat.le_of_ble_eq_true rfl) (Nat.le_of_ble_eq_true rfl) ⟨rfl, rfl, hH9, fr9⟩
set_option maxHeartbeats 8000000 in
set_option maxRecDepth 100000 in
theorem q_pattern {n tc a1 : Nat} {wd pt tf : Nat → Nat} {Q : Nat → Int} {qn : Nat → Bool} {L : List Nat} {g : Nat → Int} {h : zH} (hH : HD h wd pt Q qn tf tc L) (h_90 : h 90 = aL 1 g) (h1 : a1 < 32) :
    zMW yL_pattern cL_pattern 4 (some .int) [(0, 8, 11, 13)] 10 1 6 [.ref 0, .int (iI (a1:Nat)), .ref 90] h n (fun r9 h' n' => r9 = some (.int (iI 0)) ∧ n' = n ∧ HD h' wd pt Q qn tf tc L ∧ h' 90 = aL 1 (zup g 0 (pt a1:Nat)) ∧ zFr OHL h h') := by
  obtain ⟨h_0, -⟩ := id hH
  refine zMW_of zyL_pattern rfl (Nat.le_of_ble_eq_true rfl) (fun X hX hE => ?_)
  refine v_aload_n dL_pattern_0 rfl ?_
  refine v_iconst (iI 0) dL_pattern_1 rfl ?_
  refine v_aload_n dL_pattern_2 rfl ?_
  refine v_iload_n dL_pattern_3 rfl ?_
  refine v_cV (av := [.int (iI (a1:Nat))]) (st := [.int (iI 0), .ref 90]) zyX8_pattern lL_17 h_0 rfl (p_Hpattern (d := 9) hH h1 (by decide)) dL_pattern_4 rfl rfl (Nat.le_of_ble_eq_true rfl) (by omega) (Nat.le_of_ble_eq_true rfl) (Nat.le_of_ble_eq_true rfl) (Or.inl (fun _ _ _ q => ZN q)) (fun r9 G1 n9 q9 => ?_)
  obtain ⟨rfl, q9n, hH9, fr9⟩ := q9
  have q9n := q9n.symm
  subst q9n
  have h_90 := (fr9 90 (by decide)).trans h_90
  refine w_last dL_pattern_7 h_90 0 rfl (by decide) (by decide) (fun H1 eH1 => ?_)
  obtain ⟨F1, eF1⟩ : ∃ zz9, zz9 = zup g 0 (pt a1:Nat) := ⟨_, rfl⟩
  rw [← eF1] at eH1
  have h_90 : H1 90 = aL 1 F1 := zf_same eH1
  refine v_goto 14 dL_pattern_8 (by decide) ?_
  refine v_iconst (iI 0) dL_pattern_14 rfl ?_
  have fz : zFr [90] G1 H1 := zFr.put zFr.rf eH1 (by simp)
  rw [eF1] at h_90
  exact v_iret dL_pattern_15 trivial (Nat.le_of_ble_eq_true rfl) (Nat.le_of_ble_eq_true rfl) ⟨rfl, rfl, hH9.fr fz (by decide), h_90, (fr9.mono (fun x hx => List.mem_cons_of_mem _ hx)).tr fz (by decide)⟩
set_option maxHeartbeats 8000000 in
set_option maxRecDepth 100000 in
theorem q_width {n tc a1 : Nat} {wd pt tf : Nat → Nat} {Q : Nat → Int} {qn : Nat → Bool} {L : List Nat} {g : Nat → Int} {h : zH} (hH : HD h wd pt Q qn tf tc L) (h_90 : h 90 = aL 1 g) (h1 : a1 < 32) :
    zMW yL_width cL_width 4 (some .int) [(0, 9, 12, 13)] 10 1 6 [.ref 0, .int (iI (a1:Nat)), .ref 90] h n (fun r9 h' n' => r9 = some (.int (iI 0)) ∧ n' = n ∧ HD h' wd pt Q qn tf tc L ∧ h' 90 = aL 1 (zup g 0 (s32 (wd a1:Nat))) ∧ zFr OHL h h') := by
  obtain ⟨h_0, -⟩ := id hH
  refine zMW_of zyL_width rfl (Nat.le_of_ble_eq_true rfl) (fun X hX hE => ?_)
  refine v_aload_n dL_width_0 rfl ?_
  refine v_iconst (iI 0) dL_width_1 rfl ?_
  refine v_aload_n dL_width_2 rfl ?_
  refine v_iload_n dL_width_3 rfl ?_
  refine v_cV (av := [.int (iI (a1:Nat))]) (st := [.int (iI 0), .ref 90]) zyX8_width lL_21 h_0 rfl (p_Hwidth (d := 9) hH h1 (by decide)) dL_width_4 rfl rfl (Nat.le_of_ble_eq_true rfl) (by omega) (Nat.le_of_ble_eq_true rfl) (Nat.le_of_ble_eq_true rfl) (Or.inl (fun _ _ _ q => ZN q)) (fun r9 G1 n9 q9 => ?_)
  obtain ⟨rfl, q9n, hH9, fr9⟩ := q9
  have q9n := q9n.symm
  subst q9n
  have h_90 := (fr9 90 (by decide)).trans h_90
  refine w_topi (s32 (wd a1:Nat)) (s32_m _) ?_
  refine w_i2l dL_width_7 (s32_r _) ?_
  refine w_last dL_width_8 h_90 0 rfl (by decide) (by decide) (fun H1 eH1 => ?_)
  obtain ⟨F1, eF1⟩ : ∃ zz9, zz9 = zup g 0 (s32 (wd a1:Nat)) := ⟨_, rfl⟩
  rw [← eF1] at eH1
  have h_90 : H1 90 = aL 1 F1 := zf_same eH1
  refine v_goto 15 dL_width_9 (by decide) ?_
  refine v_iconst (iI 0) dL_width_15 rfl ?_
  have fz : zFr [90] G1 H1 := zFr.put zFr.rf eH1 (by simp)
  rw [eF1] at h_90
  exact v_iret dL_width_16 trivial (Nat.le_of_ble_eq_true rfl) (Nat.le_of_ble_eq_true rfl) ⟨rfl, rfl, hH9.fr fz (by decide), h_90, (fr9.mono (fun x hx => List.mem_cons_of_mem _ hx)).tr fz (by decide)⟩
set_option maxHeartbeats 8000000 in
set_option maxRecDepth 100000 in
theorem q_take {n tc a1 a3 w : Nat} {wd pt tf : Nat → Nat} {Q : Nat → Int} {qn : Nat → Bool} {L : List Nat} {h : zH} (hH : HD h wd pt Q qn tf tc L) (hPL : PL wd pt) (h1 : a1 < 32) (h3 : a3 < 32) (hw : 3 ≤ w ∧ w ≤ 32) :
    zMW yL_take cL_take 5 (some .int) [(0, 7, 10, 13), (0, 7, 14, 15)] 10 1 6 [.ref 0, .int (iI (a1:Nat)), .int (iI (a3:Nat)), .int (iI (w:Nat))] h n (fun r9 h' n' => r9 = some (.int (iI 0)) ∧ n' = n ∧ HD h' (zup wd a3 w) (zup pt a3 (mtk wd pt a1 w)) Q qn tf tc L ∧ zFr HOL h h') := by
  obtain ⟨h_0, -⟩ := id hH
  refine zMW_of zyL_take rfl (Nat.le_of_ble_eq_true rfl) (fun X hX hE => ?_)
  refine v_aload_n dL_take_0 rfl ?_
  refine v_iload_n dL_take_1 rfl ?_
  refine v_iload_n dL_take_2 rfl ?_
  refine v_iload_n dL_take_3 rfl ?_
  refine v_cV (av := [.int (iI (a1:Nat)), .int (iI (a3:Nat)), .int (iI (w:Nat))]) (st := []) zyX8_take lL_25 h_0 rfl (p_Htake (d := 9) hH hPL h1 h3 hw (by decide)) dL_take_4 rfl rfl (Nat.le_of_ble_eq_true rfl) (by omega) (Nat.le_of_ble_eq_true rfl) (Nat.le_of_ble_eq_true rfl) (Or.inl (fun _ _ _ q => ZN q)) (fun r9 G1 n9 q9 => ?_)
  obtain ⟨rfl, q9n, hH9, fr9⟩ := q9
  have q9n := q9n.symm
  subst q9n
  refine v_goto 18 dL_take_7 (by decide) ?_
  refine v_iconst (iI 0) dL_take_18 rfl ?_
  exact v_iret dL_take_19 trivial (Nat.le_of_ble_eq_true rfl) (Nat.le_of_ble_eq_true rfl) ⟨rfl, rfl, hH9, fr9⟩
set_option maxHeartbeats 8000000 in
set_option maxRecDepth 100000 in
theorem q_ratio {n tc a3 : Nat} {wd pt tf : Nat → Nat} {Q : Nat → Int} {qn : Nat → Bool} {L : List Nat} {x y : Int} {h : zH} (hH : HD h wd pt Q qn tf tc L) (hPL : PL wd pt) (h3 : a3 < 32) (hx : -9223372036854775808 ≤ x ∧ x < 9223372036854775808) (hy : -9223372036854775808 ≤ y ∧ y < 9223372036854775808) :
    zMW yL_ratio cL_ratio 7 (some .int) [(0, 8, 11, 13)] 10 1 6 [.ref 0, .int (iI (a3:Nat)), .long (jL x), .long (jL y)] h n (fun r9 h' n' => r9 = some (.int (iI 0)) ∧ n' = n ∧ HD h' wd (zup pt a3 (mra wd a3 x y)) Q qn tf tc L ∧ zFr HOL h h') := by
  obtain ⟨h_0, -⟩ := id hH
  refine zMW_of zyL_ratio rfl (Nat.le_of_ble_eq_true rfl) (fun X hX hE => ?_)
  refine v_aload_n dL_ratio_0 rfl ?_
  refine v_iload_n dL_ratio_1 rfl ?_
  refine v_lload_n dL_ratio_2 rfl ?_
  refine v_lload dL_ratio_3 rfl ?_
  refine v_cV (av := [.int (iI (a3:Nat)), .long (jL x), .long (jL y)]) (st := []) zyX8_ratio lL_28 h_0 rfl (p_Hratio (d := 9) hH hPL h3 hx hy (by decide)) dL_ratio_5 rfl rfl (Nat.le_of_ble_eq_true rfl) (by omega) (Nat.le_of_ble_eq_true rfl) (Nat.le_of_ble_eq_true rfl) (Or.inl (fun _ _ _ q => ZN q)) (fun r9 G1 n9 q9 => ?_)
  obtain ⟨rfl, q9n, hH9, fr9⟩ := q9
  have q9n := q9n.symm
  subst q9n
  refine v_goto 15 dL_ratio_8 (by decide) ?_
  refine v_iconst (iI 0) dL_ratio_15 rfl ?_
  exact v_iret dL_ratio_16 trivial (Nat.le_of_ble_eq_true rfl) (Nat.le_of_ble_eq_true rfl) ⟨rfl, rfl, hH9, fr9⟩
set_option maxHeartbeats 8000000 in
set_option maxRecDepth 100000 in
theorem q_whole {n tc a1 : Nat} {wd pt tf : Nat → Nat} {Q : Nat → Int} {qn : Nat → Bool} {L : List Nat} {g : Nat → Int} {h : zH} (hH : HD h wd pt Q qn tf tc L) (h_90 : h 90 = aL 1 g) (hPL : PL wd pt) (h1 : a1 < 32) (hx : mwB (pt a1) (wd a1) = false) :
    zMW yL_whole cL_whole 4 (some .int) [(0, 8, 11, 13), (0, 8, 14, 35)] 10 1 6 [.ref 0, .int (iI (a1:Nat)), .ref 90] h n (fun r9 h' n' => r9 = some (.int (iI 0)) ∧ n' = n ∧ HD h' wd pt Q qn tf tc L ∧ h' 90 = aL 1 (zup g 0 (sgI (pvI (pt a1) (wd a1)) * (mwv 3 (pvI (pt a1) (wd a1)) : Nat))) ∧ zFr OHL h h') := by
  obtain ⟨h_0, -⟩ := id hH
  refine zMW_of zyL_whole rfl (Nat.le_of_ble_eq_true rfl) (fun X hX hE => ?_)
  refine v_aload_n dL_whole_0 rfl ?_
  refine v_iconst (iI 0) dL_whole_1 rfl ?_
  refine v_aload_n dL_whole_2 rfl ?_
  refine v_iload_n dL_whole_3 rfl ?_
  refine v_cV (av := [.int (iI (a1:Nat))]) (st := [.int (iI 0), .ref 90]) zyX8_whole lL_32 h_0 rfl (p_Hwhole (d := 9) hH hPL h1 hx (by decide)) dL_whole_4 rfl rfl (Nat.le_of_ble_eq_true rfl) (by omega) (Nat.le_of_ble_eq_true rfl) (Nat.le_of_ble_eq_true rfl) (Or.inl (fun _ _ _ q => ZN q)) (fun r9 G1 n9 q9 => ?_)
  obtain ⟨rfl, q9n, hH9, fr9⟩ := q9
  have q9n := q9n.symm
  subst q9n
  have h_90 := (fr9 90 (by decide)).trans h_90
  refine w_last dL_whole_7 h_90 0 rfl (by decide) (by decide) (fun H1 eH1 => ?_)
  obtain ⟨F1, eF1⟩ : ∃ zz9, zz9 = zup g 0 (sgI (pvI (pt a1) (wd a1)) * (mwv 3 (pvI (pt a1) (wd a1)) : Nat)) := ⟨_, rfl⟩
  rw [← eF1] at eH1
  have h_90 : H1 90 = aL 1 F1 := zf_same eH1
  refine v_goto 17 dL_whole_8 (by decide) ?_
  refine v_iconst (iI 0) dL_whole_17 rfl ?_
  have fz : zFr [90] G1 H1 := zFr.put zFr.rf eH1 (by simp)
  rw [eF1] at h_90
  exact v_iret dL_whole_18 trivial (Nat.le_of_ble_eq_true rfl) (Nat.le_of_ble_eq_true rfl) ⟨rfl, rfl, hH9.fr fz (by decide), h_90, (fr9.mono (fun x hx => List.mem_cons_of_mem _ hx)).tr fz (by decide)⟩
set_option maxHeartbeats 8000000 in
set_option maxRecDepth 100000 in
theorem q_order {n tc a1 a2 : Nat} {wd pt tf : Nat → Nat} {Q : Nat → Int} {qn : Nat → Bool} {L : List Nat} {g : Nat → Int} {h : zH} (hH : HD h wd pt Q qn tf tc L) (h_90 : h 90 = aL 1 g) (hPL : PL wd pt) (h1 : a1 < 32) (h2 : a2 < 32) :
    zMW yL_order cL_order 5 (some .int) [(0, 10, 13, 13)] 10 1 6 [.ref 0, .int (iI (a1:Nat)), .int (iI (a2:Nat)), .ref 90] h n (fun r9 h' n' => r9 = some (.int (iI 0)) ∧ n' = n ∧ HD h' wd pt Q qn tf tc L ∧ h' 90 = aL 1 (zup g 0 (s32 (mor wd pt a1 a2))) ∧ zFr OHL h h') := by
  obtain ⟨h_0, -⟩ := id hH
  refine zMW_of zyL_order rfl (Nat.le_of_ble_eq_true rfl) (fun X hX hE => ?_)
  refine v_aload_n dL_order_0 rfl ?_
  refine v_iconst (iI 0) dL_order_1 rfl ?_
  refine v_aload_n dL_order_2 rfl ?_
  refine v_iload_n dL_order_3 rfl ?_
  refine v_iload_n dL_order_4 rfl ?_
  refine v_cV (av := [.int (iI (a1:Nat)), .int (iI (a2:Nat))]) (st := [.int (iI 0), .ref 90]) zyX8_order lL_37 h_0 rfl (p_Horder (d := 9) hH hPL h1 h2 (by decide)) dL_order_5 rfl rfl (Nat.le_of_ble_eq_true rfl) (by omega) (Nat.le_of_ble_eq_true rfl) (Nat.le_of_ble_eq_true rfl) (Or.inl (fun _ _ _ q => ZN q)) (fun r9 G1 n9 q9 => ?_)
  obtain ⟨rfl, q9n, hH9, fr9⟩ := q9
  have q9n := q9n.symm
  subst q9n
  have h_90 := (fr9 90 (by decide)).trans h_90
  refine w_topi (s32 (mor wd pt a1 a2)) (s32_m _) ?_
  refine w_i2l dL_order_8 (s32_r _) ?_
  refine w_last dL_order_9 h_90 0 rfl (by decide) (by decide) (fun H1 eH1 => ?_)
  obtain ⟨F1, eF1⟩ : ∃ zz9, zz9 = zup g 0 (s32 (mor wd pt a1 a2)) := ⟨_, rfl⟩
  rw [← eF1] at eH1
  have h_90 : H1 90 = aL 1 F1 := zf_same eH1
  refine v_goto 17 dL_order_10 (by decide) ?_
  refine v_iconst (iI 0) dL_order_17 rfl ?_
  have fz : zFr [90] G1 H1 := zFr.put zFr.rf eH1 (by simp)
  rw [eF1] at h_90
  exact v_iret dL_order_18 trivial (Nat.le_of_ble_eq_true rfl) (Nat.le_of_ble_eq_true rfl) ⟨rfl, rfl, hH9.fr fz (by decide), h_90, (fr9.mono (fun x hx => List.mem_cons_of_mem _ hx)).tr fz (by decide)⟩
set_option maxHeartbeats 8000000 in
set_option maxRecDepth 100000 in
theorem q_root {n tc a1 k a3 : Nat} {wd pt tf : Nat → Nat} {Q : Nat → Int} {qn : Nat → Bool} {L : List Nat} {h : zH} (hH : HD h wd pt Q qn tf tc L) (hPL : PL wd pt) (h1 : a1 < 32) (hk : 1 ≤ k ∧ k ≤ 8) (h3 : a3 < 32) :
    zMW yL_root cL_root 5 (some .int) [(0, 7, 10, 13), (0, 7, 14, 15)] 10 1 6 [.ref 0, .int (iI (a1:Nat)), .int (iI (k:Nat)), .int (iI (a3:Nat))] h n (fun r9 h' n' => r9 = some (.int (iI 0)) ∧ n' = n ∧ HD h' wd (zup pt a3 (mrt wd pt a1 k a3)) Q qn tf tc L ∧ zFr HOL h h') := by
  obtain ⟨h_0, -⟩ := id hH
  refine zMW_of zyL_root rfl (Nat.le_of_ble_eq_true rfl) (fun X hX hE => ?_)
  refine v_aload_n dL_root_0 rfl ?_
  refine v_iload_n dL_root_1 rfl ?_
  refine v_iload_n dL_root_2 rfl ?_
  refine v_iload_n dL_root_3 rfl ?_
  refine v_cV (av := [.int (iI (a1:Nat)), .int (iI (k:Nat)), .int (iI (a3:Nat))]) (st := []) zyX8_root lL_56 h_0 rfl (p_Hroot (d := 9) hH hPL h1 hk h3 (by decide)) dL_root_4 rfl rfl (Nat.le_of_ble_eq_true rfl) (by omega) (Nat.le_of_ble_eq_true rfl) (Nat.le_of_ble_eq_true rfl) (Or.inl (fun _ _ _ q => ZN q)) (fun r9 G1 n9 q9 => ?_)
  obtain ⟨rfl, q9n, hH9, fr9⟩ := q9
  have q9n := q9n.symm
  subst q9n
  refine v_goto 18 dL_root_7 (by decide) ?_
  refine v_iconst (iI 0) dL_root_18 rfl ?_
  exact v_iret dL_root_19 trivial (Nat.le_of_ble_eq_true rfl) (Nat.le_of_ble_eq_true rfl) ⟨rfl, rfl, hH9, fr9⟩
set_option maxHeartbeats 8000000 in
set_option maxRecDepth 100000 in
theorem q_under {n tc a1 a3 : Nat} {wd pt tf : Nat → Nat} {Q : Nat → Int} {qn : Nat → Bool} {L : List Nat} {h : zH} (hH : HD h wd pt Q qn tf tc L) (hPL : PL wd pt) (h1 : a1 < 32) (h3 : a3 < 32) :
    zMW yL_under cL_under 4 (some .int) [(0, 6, 9, 13)] 10 1 6 [.ref 0, .int (iI (a1:Nat)), .int (iI (a3:Nat))] h n (fun r9 h' n' => r9 = some (.int (iI 0)) ∧ n' = n ∧ HD h' wd (zup pt a3 (mun wd pt a1 a3)) Q qn tf tc L ∧ zFr HOL h h') := by
  obtain ⟨h_0, -⟩ := id hH
  refine zMW_of zyL_under rfl (Nat.le_of_ble_eq_true rfl) (fun X hX hE => ?_)
  refine v_aload_n dL_under_0 rfl ?_
  refine v_iload_n dL_under_1 rfl ?_
  refine v_iload_n dL_under_2 rfl ?_
  refine v_cV (av := [.int (iI (a1:Nat)), .int (iI (a3:Nat))]) (st := []) zyX8_under lL_59 h_0 rfl (p_Hunder (d := 9) hH hPL h1 h3 (by decide)) dL_under_3 rfl rfl (Nat.le_of_ble_eq_true rfl) (by omega) (Nat.le_of_ble_eq_true rfl) (Nat.le_of_ble_eq_true rfl) (Or.inl (fun _ _ _ q => ZN q)) (fun r9 G1 n9 q9 => ?_)
  obtain ⟨rfl, q9n, hH9, fr9⟩ := q9
  have q9n := q9n.symm
  subst q9n
  refine v_goto 12 dL_under_6 (by decide) ?_
  refine v_iconst (iI 0) dL_under_12 rfl ?_
  exact v_iret dL_under_13 trivial (Nat.le_of_ble_eq_true rfl) (Nat.le_of_ble_eq_true rfl) ⟨rfl, rfl, hH9, fr9⟩
set_option maxHeartbeats 8000000 in
set_option maxRecDepth 100000 in
theorem q_power {n tc a1 a3 : Nat} {wd pt tf : Nat → Nat} {Q : Nat → Int} {qn : Nat → Bool} {L : List Nat} {k9 : Int} {h : zH} (hH : HD h wd pt Q qn tf tc L) (hPL : PL wd pt) (h1 : a1 < 32) (hk : -16 ≤ k9 ∧ k9 ≤ 16) (h3 : a3 < 32) :
    zMW yL_power cL_power 5 (some .int) [(0, 7, 10, 13), (0, 7, 14, 15)] 10 1 6 [.ref 0, .int (iI (a1:Nat)), .int (iI k9), .int (iI (a3:Nat))] h n (fun r9 h' n' => r9 = some (.int (iI 0)) ∧ n' = n ∧ HD h' wd (zup pt a3 (mpw wd pt a1 k9 a3)) Q qn tf tc L ∧ zFr HOL h h') := by
  obtain ⟨h_0, -⟩ := id hH
  refine zMW_of zyL_power rfl (Nat.le_of_ble_eq_true rfl) (fun X hX hE => ?_)
  refine v_aload_n dL_power_0 rfl ?_
  refine v_iload_n dL_power_1 rfl ?_
  refine v_iload_n dL_power_2 rfl ?_
  refine v_iload_n dL_power_3 rfl ?_
  refine v_cV (av := [.int (iI (a1:Nat)), .int (iI k9), .int (iI (a3:Nat))]) (st := []) zyX8_power lL_66 h_0 rfl (p_Hpower (d := 9) hH hPL h1 hk h3 (by decide)) dL_power_4 rfl rfl (Nat.le_of_ble_eq_true rfl) (by omega) (Nat.le_of_ble_eq_true rfl) (Nat.le_of_ble_eq_true rfl) (Or.inl (fun _ _ _ q => ZN q)) (fun r9 G1 n9 q9 => ?_)
  obtain ⟨rfl, q9n, hH9, fr9⟩ := q9
  have q9n := q9n.symm
  subst q9n
  refine v_goto 18 dL_power_7 (by decide) ?_
  refine v_iconst (iI 0) dL_power_18 rfl ?_
  exact v_iret dL_power_19 trivial (Nat.le_of_ble_eq_true rfl) (Nat.le_of_ble_eq_true rfl) ⟨rfl, rfl, hH9, fr9⟩
set_option maxHeartbeats 8000000 in
set_option maxRecDepth 100000 in
theorem q_turn {n tc a3 m : Nat} {wd pt tf : Nat → Nat} {Q : Nat → Int} {qn : Nat → Bool} {L : List Nat} {h : zH} (hH : HD h wd pt Q qn tf tc L) (hPL : PL wd pt) (h3 : a3 < 32) (hm : m ≤ 7) :
    zMW yL_turn cL_turn 4 (some .int) [(0, 6, 9, 13), (0, 6, 12, 15)] 10 1 6 [.ref 0, .int (iI (a3:Nat)), .int (iI (m:Nat))] h n (fun r9 h' n' => r9 = some (.int (iI 0)) ∧ n' = n ∧ HD h' wd (zup pt a3 (mtn (wd a3) (pt a3) m)) Q qn tf tc L ∧ zFr HOL h h') := by
  obtain ⟨h_0, -⟩ := id hH
  refine zMW_of zyL_turn rfl (Nat.le_of_ble_eq_true rfl) (fun X hX hE => ?_)
  refine v_aload_n dL_turn_0 rfl ?_
  refine v_iload_n dL_turn_1 rfl ?_
  refine v_iload_n dL_turn_2 rfl ?_
  refine v_cV (av := [.int (iI (a3:Nat)), .int (iI (m:Nat))]) (st := []) zyX8_turn lL_69 h_0 rfl (p_Hturn (d := 9) hH hPL h3 hm (by decide)) dL_turn_3 rfl rfl (Nat.le_of_ble_eq_true rfl) (by omega) (Nat.le_of_ble_eq_true rfl) (Nat.le_of_ble_eq_true rfl) (Or.inl (fun _ _ _ q => ZN q)) (fun r9 G1 n9 q9 => ?_)
  obtain ⟨rfl, q9n, hH9, fr9⟩ := q9
  have q9n := q9n.symm
  subst q9n
  refine v_goto 15 dL_turn_6 (by decide) ?_
  refine v_iconst (iI 0) dL_turn_15 rfl ?_
  exact v_iret dL_turn_16 trivial (Nat.le_of_ble_eq_true rfl) (Nat.le_of_ble_eq_true rfl) ⟨rfl, rfl, hH9, fr9⟩
set_option maxHeartbeats 8000000 in
set_option maxRecDepth 100000 in
theorem q_clear {n tc k : Nat} {wd pt tf : Nat → Nat} {Q : Nat → Int} {qn : Nat → Bool} {L : List Nat} {h : zH} (hH : HD h wd pt Q qn tf tc L) (hk : k < 4) :
    zMW yL_clear cL_clear 3 (some .int) [(0, 5, 8, 13)] 10 1 6 [.ref 0, .int (iI (k:Nat))] h n (fun r9 h' n' => r9 = some (.int (iI 0)) ∧ n' = n ∧ HD h' wd pt (zup Q k 0) (zup qn k false) tf tc L ∧ zFr HOL h h') := by
  obtain ⟨h_0, -⟩ := id hH
  refine zMW_of zyL_clear rfl (Nat.le_of_ble_eq_true rfl) (fun X hX hE => ?_)
  refine v_aload_n dL_clear_0 rfl ?_
  refine v_iload_n dL_clear_1 rfl ?_
  refine v_cV (av := [.int (iI (k:Nat))]) (st := []) zyX8_clear lL_72 h_0 rfl (p_Hclear (d := 9) hH hk (by decide)) dL_clear_2 rfl rfl (Nat.le_of_ble_eq_true rfl) (by omega) (Nat.le_of_ble_eq_true rfl) (Nat.le_of_ble_eq_true rfl) (Or.inl (fun _ _ _ q => ZN q)) (fun r9 G1 n9 q9 => ?_)
  obtain ⟨rfl, q9n, hH9, fr9⟩ := q9
  have q9n := q9n.symm
  subst q9n
  refine v_goto 11 dL_clear_5 (by decide) ?_
  refine v_iconst (iI 0) dL_clear_11 rfl ?_
  exact v_iret dL_clear_12 trivial (Nat.le_of_ble_eq_true rfl) (Nat.le_of_ble_eq_true rfl) ⟨rfl, rfl, hH9, fr9⟩
set_option maxHeartbeats 8000000 in
set_option maxRecDepth 100000 in
theorem q_gather {n tc k a1 a2 : Nat} {wd pt tf : Nat → Nat} {Q : Nat → Int} {qn : Nat → Bool} {L : List Nat} {mi : Bool} {h : zH} (hH : HD h wd pt Q qn tf tc L) (hPL : PL wd pt) (hk : k < 4) (h1 : a1 < 32) (h2 : a2 < 32) :
    zMW yL_gather cL_gather 6 (some .int) [(0, 9, 12, 13)] 10 1 6 [.ref 0, .int (iI (k:Nat)), .int (iI (a1:Nat)), .int (iI (a2:Nat)), .int (iI (bz mi))] h n (fun r9 h' n' => r9 = some (.int (iI 0)) ∧ n' = n ∧ HD h' wd pt (zup Q k (mgQ wd pt (Q k) (qn k) a1 a2 (cond mi (-1) 1))) (zup qn k (mgN wd pt (qn k) a1 a2)) tf tc L ∧ zFr HOL h h') := by
  obtain ⟨h_0, -⟩ := id hH
  refine zMW_of zyL_gather rfl (Nat.le_of_ble_eq_true rfl) (fun X hX hE => ?_)
  refine v_aload_n dL_gather_0 rfl ?_
  refine v_iload_n dL_gather_1 rfl ?_
  refine v_iload_n dL_gather_2 rfl ?_
  refine v_iload_n dL_gather_3 rfl ?_
  refine v_iload dL_gather_4 rfl ?_
  refine v_cV (av := [.int (iI (k:Nat)), .int (iI (a1:Nat)), .int (iI (a2:Nat)), .int (iI (bz mi))]) (st := []) zyX8_gather lL_76 h_0 rfl (p_Hgather (d := 9) hH hPL hk h1 h2 (by decide)) dL_gather_6 rfl rfl (Nat.le_of_ble_eq_true rfl) (by omega) (Nat.le_of_ble_eq_true rfl) (Nat.le_of_ble_eq_true rfl) (Or.inl (fun _ _ _ q => ZN q)) (fun r9 G1 n9 q9 => ?_)
  obtain ⟨rfl, q9n, hH9, fr9⟩ := q9
  have q9n := q9n.symm
  subst q9n
  refine v_goto 16 dL_gather_9 (by decide) ?_
  refine v_iconst (iI 0) dL_gather_16 rfl ?_
  exact v_iret dL_gather_17 trivial (Nat.le_of_ble_eq_true rfl) (Nat.le_of_ble_eq_true rfl) ⟨rfl, rfl, hH9, fr9⟩
set_option maxHeartbeats 8000000 in
set_option maxRecDepth 100000 in
theorem q_dot {n tc k a1 a2 m : Nat} {wd pt tf : Nat → Nat} {Q : Nat → Int} {qn : Nat → Bool} {L : List Nat} {h : zH} (hH : HD h wd pt Q qn tf tc L) (hPL : PL wd pt) (hk : k < 4) (h1 : a1 < 32) (h2 : a2 < 32) (hm : m ≤ 32) (hg : m = 0 ∨ (a1 + m ≤ 32 ∧ a2 + m ≤ 32)) :
    zMW yL_dot cL_dot 6 (some .int) [(0, 9, 12, 13), (0, 9, 16, 15)] 10 1 6 [.ref 0, .int (iI (k:Nat)), .int (iI (a1:Nat)), .int (iI (a2:Nat)), .int (iI (m:Nat))] h n (fun r9 h' n' => r9 = some (.int (iI 0)) ∧ n' = n ∧ HD h' wd pt (zup Q k (mdt wd pt (Q k) (qn k) a1 a2 m).1) (zup qn k (mdt wd pt (Q k) (qn k) a1 a2 m).2) tf tc L ∧ zFr HOL h h') := by
  obtain ⟨h_0, -⟩ := id hH
  refine zMW_of zyL_dot rfl (Nat.le_of_ble_eq_true rfl) (fun X hX hE => ?_)
  refine v_aload_n dL_dot_0 rfl ?_
  refine v_iload_n dL_dot_1 rfl ?_
  refine v_iload_n dL_dot_2 rfl ?_
  refine v_iload_n dL_dot_3 rfl ?_
  refine v_iload dL_dot_4 rfl ?_
  refine v_cV (av := [.int (iI (k:Nat)), .int (iI (a1:Nat)), .int (iI (a2:Nat)), .int (iI (m:Nat))]) (st := []) zyX8_dot lL_80 h_0 rfl (p_Hdot (d := 9) hH hPL hk h1 h2 hm hg (by decide)) dL_dot_6 rfl rfl (Nat.le_of_ble_eq_true rfl) (by omega) (Nat.le_of_ble_eq_true rfl) (Nat.le_of_ble_eq_true rfl) (Or.inl (fun _ _ _ q => ZN q)) (fun r9 G1 n9 q9 => ?_)
  obtain ⟨rfl, q9n, hH9, fr9⟩ := q9
  have q9n := q9n.symm
  subst q9n
  refine v_goto 20 dL_dot_9 (by decide) ?_
  refine v_iconst (iI 0) dL_dot_20 rfl ?_
  exact v_iret dL_dot_21 trivial (Nat.le_of_ble_eq_true rfl) (Nat.le_of_ble_eq_true rfl) ⟨rfl, rfl, hH9, fr9⟩
set_option maxHeartbeats 8000000 in
set_option maxRecDepth 100000 in
theorem q_settle {n tc k a3 : Nat} {wd pt tf : Nat → Nat} {Q : Nat → Int} {qn : Nat → Bool} {L : List Nat} {h : zH} (hH : HD h wd pt Q qn tf tc L) (hPL : PL wd pt) (hk : k < 4) (h3 : a3 < 32) (hb : (Q k).natAbs < 2 ^ 511) :
    zMW yL_settle cL_settle 4 (some .int) [(0, 6, 9, 13)] 10 1 6 [.ref 0, .int (iI (k:Nat)), .int (iI (a3:Nat))] h n (fun r9 h' n' => r9 = some (.int (iI 0)) ∧ n' = n ∧ HD h' wd (zup pt a3 (mse wd (Q k) (qn k) a3)) Q qn tf tc L ∧ zFr HOL h h') := by
  obtain ⟨h_0, -⟩ := id hH
  refine zMW_of zyL_settle rfl (Nat.le_of_ble_eq_true rfl) (fun X hX hE => ?_)
  refine v_aload_n dL_settle_0 rfl ?_
  refine v_iload_n dL_settle_1 rfl ?_
  refine v_iload_n dL_settle_2 rfl ?_
  refine v_cV (av := [.int (iI (k:Nat)), .int (iI (a3:Nat))]) (st := []) zyX8_settle lL_84 h_0 rfl (p_Hsettle (d := 9) hH hPL hk h3 hb (by decide)) dL_settle_3 rfl rfl (Nat.le_of_ble_eq_true rfl) (by omega) (Nat.le_of_ble_eq_true rfl) (Nat.le_of_ble_eq_true rfl) (Or.inl (fun _ _ _ q => ZN q)) (fun r9 G1 n9 q9 => ?_)
  obtain ⟨rfl, q9n, hH9, fr9⟩ := q9
  have q9n := q9n.symm
  subst q9n
  refine v_goto 12 dL_settle_6 (by decide) ?_
  refine v_iconst (iI 0) dL_settle_12 rfl ?_
  exact v_iret dL_settle_13 trivial (Nat.le_of_ble_eq_true rfl) (Nat.le_of_ble_eq_true rfl) ⟨rfl, rfl, hH9, fr9⟩
set_option maxHeartbeats 8000000 in
set_option maxRecDepth 100000 in
theorem q_image {n tc k i : Nat} {wd pt tf : Nat → Nat} {Q : Nat → Int} {qn : Nat → Bool} {L : List Nat} {g : Nat → Int} {h : zH} (hH : HD h wd pt Q qn tf tc L) (h_90 : h 90 = aL 1 g) (hk : k < 4) (hi : i < 16) :
    zMW yL_image cL_image 5 (some .int) [(0, 10, 13, 13), (0, 10, 17, 15)] 10 1 6 [.ref 0, .int (iI (k:Nat)), .int (iI (i:Nat)), .ref 90] h n (fun r9 h' n' => r9 = some (.int (iI 0)) ∧ n' = n ∧ HD h' wd pt Q qn tf tc L ∧ h' 90 = aL 1 (zup g 0 (s32 (cond (qn k) (if i = 15 then -2147483648 else 0) (wat (q512 (Q k)) i : Nat)))) ∧ zFr OHL h h') := by
  obtain ⟨h_0, -⟩ := id hH
  refine zMW_of zyL_image rfl (Nat.le_of_ble_eq_true rfl) (fun X hX hE => ?_)
  refine v_aload_n dL_image_0 rfl ?_
  refine v_iconst (iI 0) dL_image_1 rfl ?_
  refine v_aload_n dL_image_2 rfl ?_
  refine v_iload_n dL_image_3 rfl ?_
  refine v_iload_n dL_image_4 rfl ?_
  refine v_cV (av := [.int (iI (k:Nat)), .int (iI (i:Nat))]) (st := [.int (iI 0), .ref 90]) zyX8_image lL_87 h_0 rfl (p_Himage (d := 9) hH hk hi (by decide)) dL_image_5 rfl rfl (Nat.le_of_ble_eq_true rfl) (by omega) (Nat.le_of_ble_eq_true rfl) (Nat.le_of_ble_eq_true rfl) (Or.inl (fun _ _ _ q => ZN q)) (fun r9 G1 n9 q9 => ?_)
  obtain ⟨rfl, q9n, hH9, fr9⟩ := q9
  have q9n := q9n.symm
  subst q9n
  have h_90 := (fr9 90 (by decide)).trans h_90
  refine w_topi (s32 (cond (qn k) (if i = 15 then -2147483648 else 0) (wat (q512 (Q k)) i : Nat))) (s32_m _) ?_
  refine w_i2l dL_image_8 (s32_r _) ?_
  refine w_last dL_image_9 h_90 0 rfl (by decide) (by decide) (fun H1 eH1 => ?_)
  obtain ⟨F1, eF1⟩ : ∃ zz9, zz9 = zup g 0 (s32 (cond (qn k) (if i = 15 then -2147483648 else 0) (wat (q512 (Q k)) i : Nat))) := ⟨_, rfl⟩
  rw [← eF1] at eH1
  have h_90 : H1 90 = aL 1 F1 := zf_same eH1
  refine v_goto 21 dL_image_10 (by decide) ?_
  refine v_iconst (iI 0) dL_image_21 rfl ?_
  have fz : zFr [90] G1 H1 := zFr.put zFr.rf eH1 (by simp)
  rw [eF1] at h_90
  exact v_iret dL_image_22 trivial (Nat.le_of_ble_eq_true rfl) (Nat.le_of_ble_eq_true rfl) ⟨rfl, rfl, hH9.fr fz (by decide), h_90, (fr9.mono (fun x hx => List.mem_cons_of_mem _ hx)).tr fz (by decide)⟩
set_option maxHeartbeats 8000000 in
set_option maxRecDepth 100000 in
theorem q_feed {n tc m : Nat} {wd pt tf : Nat → Nat} {Q : Nat → Int} {qn : Nat → Bool} {L : List Nat} {x : Int} {g : Nat → Int} {h : zH} (hH : HD h wd pt Q qn tf tc L) (h_90 : h 90 = aL 1 g) (hx : -9223372036854775808 ≤ x ∧ x < 9223372036854775808) (hm : 1 ≤ m ∧ m ≤ 8 ∧ tc + m ≤ 80) :
    zMW yL_feed cL_feed 6 (some .int) [(0, 11, 14, 15)] 10 1 6 [.ref 0, .long (jL x), .int (iI (m:Nat)), .ref 90] h n (fun r9 h' n' => r9 = some (.int (iI 0)) ∧ n' = n ∧ HD h' wd pt Q qn (fdF tf tc x m) (tc + m) L ∧ h' 90 = aL 1 (zup g 0 (s32 (tc + m : Nat))) ∧ zFr OHL h h') := by
  obtain ⟨h_0, -⟩ := id hH
  refine zMW_of zyL_feed rfl (Nat.le_of_ble_eq_true rfl) (fun X hX hE => ?_)
  refine v_aload dL_feed_0 rfl ?_
  refine v_iconst (iI 0) dL_feed_2 rfl ?_
  refine v_aload_n dL_feed_3 rfl ?_
  refine v_lload_n dL_feed_4 rfl ?_
  refine v_iload_n dL_feed_5 rfl ?_
  refine v_cV (av := [.long (jL x), .int (iI (m:Nat))]) (st := [.int (iI 0), .ref 90]) zyX8_feed lL_90 h_0 rfl (p_Hfeed (d := 9) hH hx hm (by decide)) dL_feed_6 rfl rfl (Nat.le_of_ble_eq_true rfl) (by omega) (Nat.le_of_ble_eq_true rfl) (Nat.le_of_ble_eq_true rfl) (Or.inl (fun _ _ _ q => ZN q)) (fun r9 G1 n9 q9 => ?_)
  obtain ⟨rfl, q9n, hH9, fr9⟩ := q9
  have q9n := q9n.symm
  subst q9n
  have h_90 := (fr9 90 (by decide)).trans h_90
  refine w_topi (s32 (tc + m : Nat)) (s32_m _) ?_
  refine w_i2l dL_feed_9 (s32_r _) ?_
  refine w_last dL_feed_10 h_90 0 rfl (by decide) (by decide) (fun H1 eH1 => ?_)
  obtain ⟨F1, eF1⟩ : ∃ zz9, zz9 = zup g 0 (s32 (tc + m : Nat)) := ⟨_, rfl⟩
  rw [← eF1] at eH1
  have h_90 : H1 90 = aL 1 F1 := zf_same eH1
  refine v_goto 18 dL_feed_11 (by decide) ?_
  refine v_iconst (iI 0) dL_feed_18 rfl ?_
  have fz : zFr [90] G1 H1 := zFr.put zFr.rf eH1 (by simp)
  rw [eF1] at h_90
  exact v_iret dL_feed_19 trivial (Nat.le_of_ble_eq_true rfl) (Nat.le_of_ble_eq_true rfl) ⟨rfl, rfl, hH9.fr fz (by decide), h_90, (fr9.mono (fun x hx => List.mem_cons_of_mem _ hx)).tr fz (by decide)⟩
set_option maxHeartbeats 8000000 in
set_option maxRecDepth 100000 in
theorem q_read {n tc a3 : Nat} {wd pt tf : Nat → Nat} {Q : Nat → Int} {qn : Nat → Bool} {L : List Nat} {g : Nat → Int} {h : zH} (hH : HD h wd pt Q qn tf tc L) (h_90 : h 90 = aL 1 g) (hPL : PL wd pt) (h3 : a3 < 32) (hf : bb tf) (hc : tc ≤ 80) :
    zMW yL_read cL_read 4 (some .int) [(0, 9, 12, 13)] 10 1 6 [.ref 0, .int (iI (a3:Nat)), .ref 90] h n (fun r9 h' n' => r9 = some (.int (iI 0)) ∧ n' = n ∧ HD h' wd (cond (rdOk tf tc) (zup pt a3 (mrd tf tc (wd a3))) pt) Q qn tf 0 L ∧ h' 90 = aL 1 (zup g 0 (s32 (cond (rdOk tf tc) 0 (-1 - (rdAt tf tc : Int))))) ∧ zFr OHL h h') := by
  obtain ⟨h_0, -⟩ := id hH
  refine zMW_of zyL_read rfl (Nat.le_of_ble_eq_true rfl) (fun X hX hE => ?_)
  refine v_aload_n dL_read_0 rfl ?_
  refine v_iconst (iI 0) dL_read_1 rfl ?_
  refine v_aload_n dL_read_2 rfl ?_
  refine v_iload_n dL_read_3 rfl ?_
  refine v_cV (av := [.int (iI (a3:Nat))]) (st := [.int (iI 0), .ref 90]) zyX8_read lL_94 h_0 rfl (p_Hread (d := 9) hH hPL h3 hf hc (by decide)) dL_read_4 rfl rfl (Nat.le_of_ble_eq_true rfl) (by omega) (Nat.le_of_ble_eq_true rfl) (Nat.le_of_ble_eq_true rfl) (Or.inl (fun _ _ _ q => ZN q)) (fun r9 G1 n9 q9 => ?_)
  obtain ⟨rfl, q9n, hH9, fr9⟩ := q9
  have q9n := q9n.symm
  subst q9n
  have h_90 := (fr9 90 (by decide)).trans h_90
  refine w_topi (s32 (cond (rdOk tf tc) 0 (-1 - (rdAt tf tc : Int)))) (s32_m _) ?_
  refine w_i2l dL_read_7 (s32_r _) ?_
  refine w_last dL_read_8 h_90 0 rfl (by decide) (by decide) (fun H1 eH1 => ?_)
  obtain ⟨F1, eF1⟩ : ∃ zz9, zz9 = zup g 0 (s32 (cond (rdOk tf tc) 0 (-1 - (rdAt tf tc : Int)))) := ⟨_, rfl⟩
  rw [← eF1] at eH1
  have h_90 : H1 90 = aL 1 F1 := zf_same eH1
  refine v_goto 15 dL_read_9 (by decide) ?_
  refine v_iconst (iI 0) dL_read_15 rfl ?_
  have fz : zFr [90] G1 H1 := zFr.put zFr.rf eH1 (by simp)
  rw [eF1] at h_90
  exact v_iret dL_read_16 trivial (Nat.le_of_ble_eq_true rfl) (Nat.le_of_ble_eq_true rfl) ⟨rfl, rfl, hH9.fr fz (by decide), h_90, (fr9.mono (fun x hx => List.mem_cons_of_mem _ hx)).tr fz (by decide)⟩
set_option maxHeartbeats 8000000 in
set_option maxRecDepth 100000 in
theorem q_write {n tc a1 : Nat} {wd pt tf : Nat → Nat} {Q : Nat → Int} {qn : Nat → Bool} {L : List Nat} {br : Bool} {g : Nat → Int} {h : zH} (hH : HD h wd pt Q qn tf tc L) (h_90 : h 90 = aL 1 g) (hPL : PL wd pt) (h1 : a1 < 32) :
    zMW yL_write cL_write 5 (some .int) [(0, 10, 13, 13)] 10 1 6 [.ref 0, .int (iI (a1:Nat)), .int (iI (bz br)), .ref 90] h n (fun r9 h' n' => r9 = some (.int (iI 0)) ∧ n' = n ∧ (∃ T, HD h' wd pt Q qn tf tc T ∧ (∀ T', wrt (pt a1) (wd a1) br T' → T' = T) ∧ h' 90 = aL 1 (zup g 0 (s32 (T.length:Nat)))) ∧ zFr OHL h h') := by
  obtain ⟨h_0, -⟩ := id hH
  refine zMW_of zyL_write rfl (Nat.le_of_ble_eq_true rfl) (fun X hX hE => ?_)
  refine v_aload_n dL_write_0 rfl ?_
  refine v_iconst (iI 0) dL_write_1 rfl ?_
  refine v_aload_n dL_write_2 rfl ?_
  refine v_iload_n dL_write_3 rfl ?_
  refine v_iload_n dL_write_4 rfl ?_
  refine v_cV (av := [.int (iI (a1:Nat)), .int (iI (bz br))]) (st := [.int (iI 0), .ref 90]) zyX8_write lL_97 h_0 rfl (p_Hwrite (d := 9) hH hPL h1 (by decide)) dL_write_5 rfl rfl (Nat.le_of_ble_eq_true rfl) (by omega) (Nat.le_of_ble_eq_true rfl) (Nat.le_of_ble_eq_true rfl) (Or.inl (fun _ _ _ q => q.2.1)) (fun r9 G1 n9 q9 => ?_)
  obtain ⟨⟨T, rfl, hH9, hT9⟩, rfl, fr9⟩ := q9
  have h_90 := (fr9 90 (by decide)).trans h_90
  refine w_topi (s32 (T.length:Nat)) (s32_m _) ?_
  refine w_i2l dL_write_8 (s32_r _) ?_
  refine w_last dL_write_9 h_90 0 rfl (by decide) (by decide) (fun H1 eH1 => ?_)
  obtain ⟨F1, eF1⟩ : ∃ zz9, zz9 = zup g 0 (s32 (T.length:Nat)) := ⟨_, rfl⟩
  rw [← eF1] at eH1
  have h_90 : H1 90 = aL 1 F1 := zf_same eH1
  refine v_goto 17 dL_write_10 (by decide) ?_
  refine v_iconst (iI 0) dL_write_17 rfl ?_
  have fz : zFr [90] G1 H1 := zFr.put zFr.rf eH1 (by simp)
  rw [eF1] at h_90
  exact v_iret dL_write_18 trivial (Nat.le_of_ble_eq_true rfl) (Nat.le_of_ble_eq_true rfl) ⟨rfl, rfl, ⟨T, hH9.fr fz (by decide), hT9, h_90⟩, (fr9.mono (fun x hx => List.mem_cons_of_mem _ hx)).tr fz (by decide)⟩
