/-! The tape -/
abbrev oTape (b : Nat) (tk : Int) (dg : Nat) (c at9 tens : Int) (mi na : Bool) : zC := .inr (5, [.ref b, .int (iI tk), .ref dg, .int (iI c), .int (iI at9), .int (iI tens), .int (iI (bz mi)), .int (iI (bz na))])
/-- the byte at a place of the text -/
def hr (f : Nat → Nat) (c i : Nat) : Int := if i < c then (f i : Int) else -1
def isd (x : Int) : Bool := decide (48 ≤ x ∧ x ≤ 57)
/-- digits taken from place i on, m places at most; false: a digit too many -/
def sdg (f : Nat → Nat) : Nat → Nat → Nat → Nat → Bool × Nat × Nat × Nat
  | 0, i, tk, D => (true, i, tk, D)
  | m + 1, i, tk, D => if isd (f i) then (if tk = 60 then (false, i, tk, D) else sdg f m (i + 1) (tk + 1) (D * 10 + (f i - 48))) else (true, i, tk, D)
/-- digits of a power -/
def spw (f : Nat → Nat) (c : Nat) : Nat → Nat → Nat → Nat × Nat
  | 0, i, x => (i, x)
  | m + 1, i, x => if isd (hr f c i) then spw f c m (i + 1) (10 * x + (f i - 48)) else (i, x)
def TP (h : zH) (f : Nat → Nat) (c i tk : Nat) (tens : Int) (mi na : Bool) (D : Nat) : Prop := h 30 = oTape 31 tk 32 c i tens mi na ∧ h 31 = aN 80 f ∧ WD h 32 33 D
def bb (f : Nat → Nat) : Prop := ∀ i, f i < 256
theorem hr_r {f : Nat → Nat} (hf : bb f) (c i : Nat) : -1 ≤ hr f c i ∧ hr f c i < 256 := by
  unfold hr; have := hf i; split <;> omega
theorem isd_t {x : Int} (h : isd x = true) : 48 ≤ x ∧ x ≤ 57 := of_decide_eq_true h
theorem isd_f {x : Int} (h : isd x = false) : ¬ (48 ≤ x ∧ x ≤ 57) := of_decide_eq_false h
set_option maxHeartbeats 4000000 in
set_option maxRecDepth 100000 in
theorem p_tappend {d n c i x : Nat} {tk tens : Int} {mi na : Bool} {f : Nat → Nat} {h : zH} (h_30 : h 30 = oTape 31 tk 32 c i tens mi na) (h_31 : h 31 = aN 80 f) (hc : c < 80) (hx : x < 256) :
    zM yX6_append cX6_append 2 none d 0 0 [.ref 30, .int (iI (x:Nat))] h n (fun r h' n' => r = none ∧ n' = n ∧ h' 30 = oTape 31 tk 32 (c + 1 : Nat) i tens mi na ∧ h' 31 = aN 80 (zup f c x) ∧ zFr [30, 31] h h') := by
  refine zM_of zyX6_append rfl (Nat.le_of_ble_eq_true rfl) (fun X hX => ?_)
  have fr : zFr [30, 31] h h := zFr.rf
  refine v_aload_n dX6_append_0 rfl ?_
  refine v_get fX6_20 dX6_append_1 h_30 (by decide) rfl ?_
  refine w_if_lt 36 dX6_append_4 (by decide) (by omega) (fun c1 => ?_) (fun c1 => ?_)
  · exact absurd c1 (by omega)
  · skip
    refine v_aload_n dX6_append_7 rfl ?_
    refine v_get fX6_20 dX6_append_8 h_30 (by decide) rfl ?_
    refine v_bipush (iI 80) dX6_append_11 rfl ?_
    refine w_icmp_ge 36 dX6_append_13 (by decide) (by omega) (by decide) (fun c2 => ?_) (fun c2 => ?_)
    · exact absurd c2 (by omega)
    · skip
      refine v_aload_n dX6_append_16 rfl ?_
      refine v_get fX6_9 dX6_append_17 h_30 (by decide) rfl ?_
      refine v_aload_n dX6_append_20 rfl ?_
      refine v_get fX6_20 dX6_append_21 h_30 (by decide) rfl ?_
      refine v_iload_n dX6_append_24 rfl ?_
      refine w_nast dX6_append_25 h_31 c (by omega) (by omega) (by decide) x (by omega) (fun H1 eH1 => ?_)
      obtain ⟨F1, eF1⟩ : ∃ zz9, zz9 = zup f c x := ⟨_, rfl⟩
      rw [← eF1] at eH1
      have h_31 : H1 31 = aN 80 F1 := zf_same eH1
      have h_30 := (zf_ne eH1 (by decide)).trans h_30
      have fr := fr.put eH1 (by simp)
      refine v_aload_n dX6_append_26 rfl ?_
      refine v_dup dX6_append_27 rfl ?_
      refine v_get fX6_20 dX6_append_28 h_30 (by decide) rfl ?_
      refine v_iconst (iI 1) dX6_append_31 rfl ?_
      refine w_iadd dX6_append_32 ?_
      refine w_ei (c + 1:Nat) (by omega) ?_
      refine v_put (fs' := [.ref 31, .int (iI tk), .ref 32, .int (iI (c + 1:Nat)), .int (iI (i:Nat)), .int (iI tens), .int (iI (bz mi)), .int (iI (bz na))]) fX6_20 dX6_append_33 h_30 (by decide) (Nat.le_of_ble_eq_true rfl) rfl rfl rfl (fun H2 eH2 => ?_)
      have h_30 : H2 30 = oTape 31 tk 32 (c + 1:Nat) (i:Nat) tens mi na := zf_same eH2
      have h_31 := (zf_ne eH2 (by decide)).trans h_31
      have fr := fr.put eH2 (by simp)
      exact v_vret dX6_append_36 trivial (Nat.le_of_ble_eq_true rfl) (Nat.le_of_ble_eq_true rfl) ⟨rfl, rfl, h_30, by rw [← eF1]; exact h_31, fr⟩
set_option maxHeartbeats 4000000 in
set_option maxRecDepth 100000 in
theorem p_here {d n c i : Nat} {tk tens : Int} {mi na : Bool} {f : Nat → Nat} {h : zH} (h_30 : h 30 = oTape 31 tk 32 (c:Nat) (i:Nat) tens mi na) (h_31 : h 31 = aN 80 f) (hc : c ≤ 80) (hi : i ≤ 1000) :
    zM yX6_here cX6_here 1 (some .int) d 0 0 [.ref 30] h n (fun r h' n' => r = some (.int (iI (hr f c i))) ∧ n' = n ∧ h' = h) := by
  refine zM_of zyX6_here rfl (Nat.le_of_ble_eq_true rfl) (fun X hX => ?_)
  refine v_aload_n dX6_here_0 rfl ?_
  refine v_get fX6_24 dX6_here_1 h_30 (by decide) rfl ?_
  refine w_if_lt 39 dX6_here_4 (by decide) (by omega) (fun c1 => ?_) (fun c1 => ?_)
  · exact absurd c1 (by omega)
  · skip
    refine v_aload_n dX6_here_7 rfl ?_
    refine v_get fX6_24 dX6_here_8 h_30 (by decide) rfl ?_
    refine v_aload_n dX6_here_11 rfl ?_
    refine v_get fX6_20 dX6_here_12 h_30 (by decide) rfl ?_
    refine w_icmp_ge 39 dX6_here_15 (by decide) (by omega) (by omega) (fun c2 => ?_) (fun c2 => ?_)
    · skip
      refine v_iconst (iI (-1)) dX6_here_39 rfl ?_
      exact v_iret dX6_here_40 trivial (Nat.le_of_ble_eq_true rfl) (Nat.le_of_ble_eq_true rfl) ⟨by unfold hr; rw [if_neg (by omega)], rfl, rfl⟩
    · skip
      refine v_aload_n dX6_here_18 rfl ?_
      refine v_get fX6_24 dX6_here_19 h_30 (by decide) rfl ?_
      refine v_bipush (iI 80) dX6_here_22 rfl ?_
      refine w_icmp_ge 39 dX6_here_24 (by decide) (by omega) (by decide) (fun c3 => ?_) (fun c3 => ?_)
      · exact absurd c3 (by omega)
      · skip
        refine v_aload_n dX6_here_27 rfl ?_
        refine v_get fX6_9 dX6_here_28 h_30 (by decide) rfl ?_
        refine v_aload_n dX6_here_31 rfl ?_
        refine v_get fX6_24 dX6_here_32 h_30 (by decide) rfl ?_
        refine w_nald dX6_here_35 h_31 i (by omega) (by omega) (by decide) ?_
        refine v_goto 40 dX6_here_36 (by decide) ?_
        exact v_iret dX6_here_40 trivial (Nat.le_of_ble_eq_true rfl) (Nat.le_of_ble_eq_true rfl) ⟨by unfold hr; rw [if_pos (by omega)], rfl, rfl⟩
set_option maxHeartbeats 4000000 in
set_option maxRecDepth 100000 in
theorem p_isDigit {d n c i : Nat} {tk tens : Int} {mi na : Bool} {f : Nat → Nat} {h : zH} (h_30 : h 30 = oTape 31 tk 32 (c:Nat) (i:Nat) tens mi na) (h_31 : h 31 = aN 80 f) (hf : bb f) (hc : c ≤ 80) (hi : i ≤ 1000) (hd : 1 ≤ d) :
    zM yX6_isDigit cX6_isDigit 1 (some .boolean) d 0 0 [.ref 30] h n (fun r h' n' => r = some (.int (iI (bz (isd (hr f c i))))) ∧ n' = n ∧ h' = h) := by
  have hh := hr_r hf c i
  refine zM_of zyX6_isDigit rfl (Nat.le_of_ble_eq_true rfl) (fun X hX => ?_)
  refine v_aload_n dX6_isDigit_0 rfl ?_
  refine v_cV (av := []) (st := []) zyX6_here lX6_37 h_30 rfl (p_here (d := 0) h_30 h_31 hc hi) dX6_isDigit_1 rfl rfl (Nat.le_of_ble_eq_true rfl) (by omega) (Nat.le_of_ble_eq_true rfl) (Nat.le_of_ble_eq_true rfl) (Or.inl (fun _ _ _ q => ZN q)) (fun r9 K1 n9 q9 => ?_)
  obtain ⟨rfl, q9n, q9h⟩ := q9
  have q9n := q9n.symm
  subst q9n
  have q9h := q9h.symm
  subst q9h
  refine v_bipush (iI 48) dX6_isDigit_4 rfl ?_
  refine w_icmp_lt 22 dX6_isDigit_6 (by decide) (by omega) (by decide) (fun c1 => ?_) (fun c1 => ?_)
  · skip
    refine v_iconst (iI 0) dX6_isDigit_22 rfl ?_
    refine w_ei (bz false) rfl ?_
    exact v_iret dX6_isDigit_23 bz_ret (Nat.le_of_ble_eq_true rfl) (Nat.le_of_ble_eq_true rfl) ⟨by unfold isd; rw [decide_eq_false (by omega)], rfl, rfl⟩
  · skip
    refine v_aload_n dX6_isDigit_9 rfl ?_
    refine v_cV (av := []) (st := []) zyX6_here lX6_37 h_30 rfl (p_here (d := 0) h_30 h_31 hc hi) dX6_isDigit_10 rfl rfl (Nat.le_of_ble_eq_true rfl) (by omega) (Nat.le_of_ble_eq_true rfl) (Nat.le_of_ble_eq_true rfl) (Or.inl (fun _ _ _ q => ZN q)) (fun r9 K2 n9 q9 => ?_)
    obtain ⟨rfl, q9n, q9h⟩ := q9
    have q9n := q9n.symm
    subst q9n
    have q9h := q9h.symm
    subst q9h
    refine v_bipush (iI 57) dX6_isDigit_13 rfl ?_
    refine w_icmp_gt 22 dX6_isDigit_15 (by decide) (by omega) (by decide) (fun c2 => ?_) (fun c2 => ?_)
    · skip
      refine v_iconst (iI 0) dX6_isDigit_22 rfl ?_
      refine w_ei (bz false) rfl ?_
      exact v_iret dX6_isDigit_23 bz_ret (Nat.le_of_ble_eq_true rfl) (Nat.le_of_ble_eq_true rfl) ⟨by unfold isd; rw [decide_eq_false (by omega)], rfl, rfl⟩
    · skip
      refine v_iconst (iI 1) dX6_isDigit_18 rfl ?_
      refine v_goto 23 dX6_isDigit_19 (by decide) ?_
      refine w_ei (bz true) rfl ?_
      exact v_iret dX6_isDigit_23 bz_ret (Nat.le_of_ble_eq_true rfl) (Nat.le_of_ble_eq_true rfl) ⟨by unfold isd; rw [decide_eq_true (by omega)], rfl, rfl⟩
set_option maxHeartbeats 4000000 in
set_option maxRecDepth 100000 in
theorem p_pass {d n c i : Nat} {w tk tens : Int} {mi na : Bool} {f : Nat → Nat} {h : zH} (h_30 : h 30 = oTape 31 tk 32 (c:Nat) (i:Nat) tens mi na) (h_31 : h 31 = aN 80 f) (hf : bb f) (hc : c ≤ 80) (hi : i ≤ 1000) (hw : 0 ≤ w ∧ w < 1000) (hd : 1 ≤ d) :
    zM yX6_pass cX6_pass 3 (some .boolean) d 0 0 [.ref 30, .int (iI w)] h n (fun r h' n' => r = some (.int (iI (bz (decide (hr f c i = w))))) ∧ n' = n ∧ h' 30 = oTape 31 tk 32 (c:Nat) (cond (decide (hr f c i = w)) (i + 1) i : Nat) tens mi na ∧ zFr [30] h h') := by
  have hh := hr_r hf c i
  refine zM_of zyX6_pass rfl (Nat.le_of_ble_eq_true rfl) (fun X hX => ?_)
  have fr : zFr [30] h h := zFr.rf
  refine v_aload_n dX6_pass_0 rfl ?_
  refine v_cV (av := []) (st := []) zyX6_here lX6_37 h_30 rfl (p_here (d := 0) h_30 h_31 hc hi) dX6_pass_1 rfl rfl (Nat.le_of_ble_eq_true rfl) (by omega) (Nat.le_of_ble_eq_true rfl) (Nat.le_of_ble_eq_true rfl) (Or.inl (fun _ _ _ q => ZN q)) (fun r9 K1 n9 q9 => ?_)
  obtain ⟨rfl, q9n, q9h⟩ := q9
  have q9n := q9n.symm
  subst q9n
  have q9h := q9h.symm
  subst q9h
  have j13 : ∀ b : Bool, b = decide (hr f c i = w) → (zV X (fun r h' n' => r = some (.int (iI (bz (decide (hr f c i = w))))) ∧ n' = n ∧ h' 30 = oTape 31 tk 32 (c:Nat) (cond (decide (hr f c i = w)) (i + 1) i : Nat) tens mi na ∧ zFr [30] h h') cX6_pass 3 RX6 (some .boolean) d 0 0 13 [(0, .ref 30)] [.int (iI (bz b))] h n 0 0) := by
    intro b eb
    rw [← eb]
    refine v_istore_n (i := 2) (lv' := [(2, .int (iI (bz b))), (0, .ref 30)]) dX6_pass_13 rfl (by decide) rfl ?_
    refine v_aload_n dX6_pass_14 rfl ?_
    refine v_dup dX6_pass_15 rfl ?_
    refine v_get fX6_24 dX6_pass_16 h_30 (by decide) rfl ?_
    refine v_iload_n dX6_pass_19 rfl ?_
    refine w_ifb_eq 27 dX6_pass_20 (by decide) (fun c2 => ?_) (fun c2 => ?_)
    · skip
      refine v_iconst (iI 0) dX6_pass_27 rfl ?_
      refine w_iadd dX6_pass_28 ?_
      refine w_ei (cond b (i + 1) i:Nat) (by rw [c2, cond_false]; omega) ?_
      refine v_put (fs' := [.ref 31, .int (iI tk), .ref 32, .int (iI (c:Nat)), .int (iI (cond b (i + 1) i:Nat)), .int (iI tens), .int (iI (bz mi)), .int (iI (bz na))]) fX6_24 dX6_pass_29 h_30 (by decide) (Nat.le_of_ble_eq_true rfl) rfl rfl rfl (fun H1 eH1 => ?_)
      have h_30 : H1 30 = oTape 31 tk 32 (c:Nat) (cond b (i + 1) i:Nat) tens mi na := zf_same eH1
      have h_31 := (zf_ne eH1 (by decide)).trans h_31
      have fr := fr.put eH1 (by simp)
      refine v_iload_n dX6_pass_32 rfl ?_
      exact v_iret dX6_pass_33 bz_ret (Nat.le_of_ble_eq_true rfl) (Nat.le_of_ble_eq_true rfl) ⟨rfl, rfl, h_30, fr⟩
    · skip
      refine v_iconst (iI 1) dX6_pass_23 rfl ?_
      refine v_goto 28 dX6_pass_24 (by decide) ?_
      refine w_iadd dX6_pass_28 ?_
      refine w_ei (cond b (i + 1) i:Nat) (by rw [c2, cond_true]; omega) ?_
      refine v_put (fs' := [.ref 31, .int (iI tk), .ref 32, .int (iI (c:Nat)), .int (iI (cond b (i + 1) i:Nat)), .int (iI tens), .int (iI (bz mi)), .int (iI (bz na))]) fX6_24 dX6_pass_29 h_30 (by decide) (Nat.le_of_ble_eq_true rfl) rfl rfl rfl (fun H1 eH1 => ?_)
      have h_30 : H1 30 = oTape 31 tk 32 (c:Nat) (cond b (i + 1) i:Nat) tens mi na := zf_same eH1
      have h_31 := (zf_ne eH1 (by decide)).trans h_31
      have fr := fr.put eH1 (by simp)
      refine v_iload_n dX6_pass_32 rfl ?_
      exact v_iret dX6_pass_33 bz_ret (Nat.le_of_ble_eq_true rfl) (Nat.le_of_ble_eq_true rfl) ⟨rfl, rfl, h_30, fr⟩
  refine v_iload_n dX6_pass_4 rfl ?_
  refine w_icmp_ne 12 dX6_pass_5 (by decide) (by omega) (by omega) (fun c1 => ?_) (fun c1 => ?_)
  · skip
    refine v_iconst (iI 0) dX6_pass_12 rfl ?_
    refine w_ei (bz false) rfl ?_
    refine w_sub (lv2 := [(0, .ref 30)]) [0] rfl ?_
    exact j13 false (decide_eq_false c1).symm
  · skip
    refine v_iconst (iI 1) dX6_pass_8 rfl ?_
    refine v_goto 13 dX6_pass_9 (by decide) ?_
    refine w_ei (bz true) rfl ?_
    refine w_sub (lv2 := [(0, .ref 30)]) [0] rfl ?_
    exact j13 true (decide_eq_true c1).symm
theorem sdg_b {f : Nat → Nat} : ∀ (m i tk D : Nat), tk ≤ 60 → D < 10 ^ tk → (sdg f m i tk D).2.2.1 ≤ 60 ∧ (sdg f m i tk D).2.2.2 < 10 ^ (sdg f m i tk D).2.2.1 ∧ i ≤ (sdg f m i tk D).2.1 ∧ (sdg f m i tk D).2.1 ≤ i + m
  | 0, i, tk, D, h1, h2 => ⟨h1, h2, Nat.le_refl _, Nat.le_refl _⟩
  | m + 1, i, tk, D, h1, h2 => by
    unfold sdg
    by_cases q : isd (f i) = true
    · rw [if_pos q]
      have q2 := isd_t q
      by_cases q3 : tk = 60
      · rw [if_pos q3]; exact ⟨h1, h2, Nat.le_refl _, by show i ≤ _; omega⟩
      · rw [if_neg q3]
        have := sdg_b (f := f) m (i + 1) (tk + 1) (D * 10 + (f i - 48)) (by omega) (by rw [Nat.pow_succ]; omega)
        omega
    · rw [if_neg q]; exact ⟨h1, h2, Nat.le_refl _, by show i ≤ _; omega⟩
set_option maxHeartbeats 4000000 in
set_option maxRecDepth 100000 in
theorem p_scanDigits {d n c i tk D : Nat} {tens : Int} {mi na : Bool} {f : Nat → Nat} {h : zH} (hT : TP h f c i tk tens mi na D) (hf : bb f) (hc : c ≤ 80) (hi : i ≤ c) (htk : tk ≤ 60) (hD : D < 10 ^ tk) (hd : 2 ≤ d) :
    zM yX6_scanDigits cX6_scanDigits 3 (some .boolean) d 0 0 [.ref 30] h n (fun r h' n' => r = some (.int (iI (bz ((sdg f (c - i) i tk D).1 && decide (i < (sdg f (c - i) i tk D).2.1))))) ∧ n' = n ∧ TP h' f c (sdg f (c - i) i tk D).2.1 (sdg f (c - i) i tk D).2.2.1 tens mi na (sdg f (c - i) i tk D).2.2.2 ∧ zFr [30, 32, 33] h h') := by
  obtain ⟨h_30, h_31, hw⟩ := hT
  refine zM_of zyX6_scanDigits rfl (Nat.le_of_ble_eq_true rfl) (fun X hX => ?_)
  have fr : zFr [30, 32, 33] h h := zFr.rf
  obtain ⟨R, eR⟩ : ∃ R, sdg f (c - i) i tk D = R := ⟨_, rfl⟩
  refine v_aload_n dX6_scanDigits_0 rfl ?_
  refine v_get fX6_24 dX6_scanDigits_1 h_30 (by decide) rfl ?_
  refine v_istore_n (i := 1) (lv' := [(1, .int (iI (i:Nat))), (0, .ref 30)]) dX6_scanDigits_4 rfl (by decide) rfl ?_
  refine v_aload_n dX6_scanDigits_5 rfl ?_
  refine v_get fX6_24 dX6_scanDigits_6 h_30 (by decide) rfl ?_
  refine v_istore_n (i := 2) (lv' := [(2, .int (iI (i:Nat))), (1, .int (iI (i:Nat))), (0, .ref 30)]) dX6_scanDigits_9 rfl (by decide) rfl ?_
  refine w_sub (lv2 := [(0, .ref 30), (1, .int (iI (i:Nat))), (2, .int (iI (i:Nat)))]) [2, 1, 0] rfl ?_
  have loop : ∀ (m j t E : Nat) (y : Int) (H : zH), j + m = c → y = j → i ≤ j → t ≤ 60 → E < 10 ^ t → sdg f m j t E = R → TP H f c j t tens mi na E → zFr [30, 32, 33] h H → (zV X (fun r h' n' => r = some (.int (iI (bz ((sdg f (c - i) i tk D).1 && decide (i < (sdg f (c - i) i tk D).2.1))))) ∧ n' = n ∧ TP h' f c (sdg f (c - i) i tk D).2.1 (sdg f (c - i) i tk D).2.2.1 tens mi na (sdg f (c - i) i tk D).2.2.2 ∧ zFr [30, 32, 33] h h') cX6_scanDigits 3 RX6 (some .boolean) d 0 0 10 [(0, .ref 30), (1, .int (iI (i:Nat))), (2, .int (iI y))] [] H n 0 0) := by
    have fin : ∀ (j t E : Nat) (y : Int) (H : zH), i ≤ j → j ≤ c → (true, j, t, E) = R → TP H f c j t tens mi na E → zFr [30, 32, 33] h H → (zV X (fun r h' n' => r = some (.int (iI (bz ((sdg f (c - i) i tk D).1 && decide (i < (sdg f (c - i) i tk D).2.1))))) ∧ n' = n ∧ TP h' f c (sdg f (c - i) i tk D).2.1 (sdg f (c - i) i tk D).2.2.1 tens mi na (sdg f (c - i) i tk D).2.2.2 ∧ zFr [30, 32, 33] h h') cX6_scanDigits 3 RX6 (some .boolean) d 0 0 80 [(0, .ref 30), (1, .int (iI (i:Nat))), (2, .int (iI y))] [] H n 0 0) := by
      intro j t E y H hij hjc e hT fr
      obtain ⟨h_30, h_31, hw⟩ := id hT
      rw [eR, ← e]
      refine v_aload_n dX6_scanDigits_80 rfl ?_
      refine v_get fX6_24 dX6_scanDigits_81 h_30 (by decide) rfl ?_
      refine v_iload_n dX6_scanDigits_84 rfl ?_
      refine w_icmp_le 92 dX6_scanDigits_85 (by decide) (by omega) (by omega) (fun c1 => ?_) (fun c1 => ?_)
      · skip
        refine v_iconst (iI 0) dX6_scanDigits_92 rfl ?_
        refine w_ei (bz false) rfl ?_
        exact v_iret dX6_scanDigits_93 bz_ret (Nat.le_of_ble_eq_true rfl) (Nat.le_of_ble_eq_true rfl) ⟨by show _ = some (Value.int (iI (bz (true && decide (i < j))))); rw [decide_eq_false (by omega)]; rfl, rfl, hT, fr⟩
      · skip
        refine v_iconst (iI 1) dX6_scanDigits_88 rfl ?_
        refine v_goto 93 dX6_scanDigits_89 (by decide) ?_
        refine w_ei (bz true) rfl ?_
        exact v_iret dX6_scanDigits_93 bz_ret (Nat.le_of_ble_eq_true rfl) (Nat.le_of_ble_eq_true rfl) ⟨by show _ = some (Value.int (iI (bz (true && decide (i < j))))); rw [decide_eq_true (by omega)]; rfl, rfl, hT, fr⟩
    intro m
    induction m with
    | zero =>
      intro j t E y H hj ey hij ht hE e hT fr
      obtain ⟨h_30, h_31, hw⟩ := id hT
      refine v_iload_n dX6_scanDigits_10 rfl ?_
      refine v_aload_n dX6_scanDigits_11 rfl ?_
      refine v_get fX6_20 dX6_scanDigits_12 h_30 (by decide) rfl ?_
      refine w_icmp_ge 80 dX6_scanDigits_15 (by decide) (by omega) (by omega) (fun c1 => ?_) (fun c1 => ?_)
      · exact fin j t E y H hij (by omega) e hT fr
      · exact absurd c1 (by omega)
    | succ m ih =>
      intro j t E y H hj ey hij ht hE e hT fr
      obtain ⟨h_30, h_31, hw⟩ := id hT
      have ehr : hr f c j = f j := by unfold hr; rw [if_pos (by omega)]
      refine v_iload_n dX6_scanDigits_10 rfl ?_
      refine v_aload_n dX6_scanDigits_11 rfl ?_
      refine v_get fX6_20 dX6_scanDigits_12 h_30 (by decide) rfl ?_
      refine w_icmp_ge 80 dX6_scanDigits_15 (by decide) (by omega) (by omega) (fun c1 => ?_) (fun c1 => ?_)
      · exact absurd c1 (by omega)
      · skip
        refine v_aload_n dX6_scanDigits_18 rfl ?_
        refine v_cV (av := []) (st := []) zyX6_isDigit lX6_59 h_30 rfl (p_isDigit (d := 1) h_30 h_31 hf hc (by omega) (by decide)) dX6_scanDigits_19 rfl rfl (Nat.le_of_ble_eq_true rfl) (by omega) (Nat.le_of_ble_eq_true rfl) (Nat.le_of_ble_eq_true rfl) (Or.inl (fun _ _ _ q => ZN q)) (fun r9 K1 n9 q9 => ?_)
        obtain ⟨rfl, q9n, q9h⟩ := q9
        have q9n := q9n.symm
        subst q9n
        have q9h := q9h.symm
        subst q9h
        refine w_ifb_eq 80 dX6_scanDigits_22 (by decide) (fun c2 => ?_) (fun c2 => ?_)
        · exact fin j t E y H hij (by omega) (by rw [← e]; unfold sdg; rw [ehr] at c2; rw [if_neg (by rw [c2]; decide)]) hT fr
        · have c2' : isd (f j) = true := by rw [← ehr]; exact c2
          have hdj := isd_t c2'
          refine v_aload_n dX6_scanDigits_25 rfl ?_
          refine v_get fX6_27 dX6_scanDigits_26 h_30 (by decide) rfl ?_
          refine v_bipush (iI 60) dX6_scanDigits_29 rfl ?_
          refine w_icmp_ne 36 dX6_scanDigits_31 (by decide) (by omega) (by decide) (fun c3 => ?_) (fun c3 => ?_)
          · have e9 : R = sdg f m (j + 1) (t + 1) (E * 10 + (f j - 48)) := by rw [← e]; show (if _ then _ else _) = _; rw [if_pos c2', if_neg (by omega)]
            have hE2 : E * 10 + (f j - 48) < 10 ^ (t + 1) := by rw [Nat.pow_succ]; omega
            have hp60 : (10 : Nat) ^ (t + 1) ≤ 10 ^ 61 := Nat.pow_le_pow_right (by decide) (by omega)
            have hp61 : (10 : Nat) ^ 61 < 2 ^ 512 := by decide
            refine v_aload_n dX6_scanDigits_36 rfl ?_
            refine v_get fX6_16 dX6_scanDigits_37 h_30 (by decide) rfl ?_
            refine v_ldc2_w (v := jL 10) kX6_62 dX6_scanDigits_40 ?_
            refine v_aload_n dX6_scanDigits_43 rfl ?_
            refine v_cV (av := []) (st := [.long (jL 10), .ref 32]) zyX6_here lX6_37 h_30 rfl (p_here (d := 1) h_30 h_31 hc (by omega)) dX6_scanDigits_44 rfl rfl (Nat.le_of_ble_eq_true rfl) (by omega) (Nat.le_of_ble_eq_true rfl) (Nat.le_of_ble_eq_true rfl) (Or.inl (fun _ _ _ q => ZN q)) (fun r9 K2 n9 q9 => ?_)
            obtain ⟨rfl, q9n, q9h⟩ := q9
            have q9n := q9n.symm
            subst q9n
            have q9h := q9h.symm
            subst q9h
            rw [ehr]
            refine w_ei (f j:Nat) rfl ?_
            refine v_bipush (iI 48) dX6_scanDigits_47 rfl ?_
            refine w_isub dX6_scanDigits_49 ?_
            refine w_i2l dX6_scanDigits_50 (by omega) ?_
            refine w_el (f j - 48:Nat) (by omega) ?_
            obtain ⟨u932, f932, h_32, -⟩ := id hw
            refine v_cV (av := [.long (jL 10), .long (jL (f j - 48:Nat))]) (st := []) zyX7_grow lX6_64 h_32 rfl (p_grow (d := 1) (x := 10) (y := f j - 48) hw (by decide) (by decide) (by omega) (by omega)) dX6_scanDigits_51 rfl rfl (Nat.le_of_ble_eq_true rfl) (by omega) (Nat.le_of_ble_eq_true rfl) (Nat.le_of_ble_eq_true rfl) (Or.inl (fun _ _ _ q => ZN q)) (fun r9 G2 n9 q9 => ?_)
            obtain ⟨rfl, q9n, hw, fr9⟩ := q9
            have q9n := q9n.symm
            subst q9n
            have h_30 := (fr9 30 (by decide)).trans h_30
            have h_31 := (fr9 31 (by decide)).trans h_31
            have fr := fr.tr fr9 (by decide)
            refine v_aload_n dX6_scanDigits_54 rfl ?_
            refine v_dup dX6_scanDigits_55 rfl ?_
            refine v_get fX6_27 dX6_scanDigits_56 h_30 (by decide) rfl ?_
            refine v_iconst (iI 1) dX6_scanDigits_59 rfl ?_
            refine w_iadd dX6_scanDigits_60 ?_
            refine w_ei (t + 1:Nat) (by omega) ?_
            refine v_put (fs' := [.ref 31, .int (iI (t + 1:Nat)), .ref 32, .int (iI (c:Nat)), .int (iI (j:Nat)), .int (iI tens), .int (iI (bz mi)), .int (iI (bz na))]) fX6_27 dX6_scanDigits_61 h_30 (by decide) (Nat.le_of_ble_eq_true rfl) rfl rfl rfl (fun H1 eH1 => ?_)
            have h_30 : H1 30 = oTape 31 (t + 1:Nat) 32 (c:Nat) (j:Nat) tens mi na := zf_same eH1
            have h_31 := (zf_ne eH1 (by decide)).trans h_31
            have fr := fr.put eH1 (by simp)
            refine v_aload_n dX6_scanDigits_64 rfl ?_
            refine v_dup dX6_scanDigits_65 rfl ?_
            refine v_get fX6_24 dX6_scanDigits_66 h_30 (by decide) rfl ?_
            refine v_iconst (iI 1) dX6_scanDigits_69 rfl ?_
            refine w_iadd dX6_scanDigits_70 ?_
            refine w_ei (j + 1:Nat) (by omega) ?_
            refine v_put (fs' := [.ref 31, .int (iI (t + 1:Nat)), .ref 32, .int (iI (c:Nat)), .int (iI (j + 1:Nat)), .int (iI tens), .int (iI (bz mi)), .int (iI (bz na))]) fX6_24 dX6_scanDigits_71 h_30 (by decide) (Nat.le_of_ble_eq_true rfl) rfl rfl rfl (fun H2 eH2 => ?_)
            have h_30 : H2 30 = oTape 31 (t + 1:Nat) 32 (c:Nat) (j + 1:Nat) tens mi na := zf_same eH2
            have h_31 := (zf_ne eH2 (by decide)).trans h_31
            have fr := fr.put eH2 (by simp)
            refine w_iinc (lv' := [(2, .int (iI (y + 1))), (0, .ref 30), (1, .int (iI (i:Nat)))]) dX6_scanDigits_74 rfl (by decide) rfl ?_
            refine v_goto 10 dX6_scanDigits_77 (by decide) ?_
            refine w_sub (lv2 := [(0, .ref 30), (1, .int (iI (i:Nat))), (2, .int (iI (y + 1)))]) [1, 2, 0] rfl ?_
            have fz : zFr [30] G2 H2 := (zFr.put zFr.rf eH1 (by simp)).put eH2 (by simp)
            exact ih (j + 1) (t + 1) (E * 10 + (f j - 48)) (y + 1) _ (by omega) (by omega) (by omega) (by omega) hE2 e9.symm ⟨h_30, h_31, hw.fr fz (by decide) (by decide)⟩ fr
          · have e9 : R = (false, j, t, E) := by rw [← e]; show (if _ then _ else _) = _; rw [if_pos c2', if_pos (by omega)]
            rw [eR, e9]
            refine v_iconst (iI 0) dX6_scanDigits_34 rfl ?_
            refine w_ei (bz false) rfl ?_
            exact v_iret dX6_scanDigits_35 bz_ret (Nat.le_of_ble_eq_true rfl) (Nat.le_of_ble_eq_true rfl) ⟨rfl, rfl, hT, fr⟩
  exact loop (c - i) i tk D _ h (by omega) rfl (Nat.le_refl _) htk hD eR ⟨h_30, h_31, hw⟩ fr
