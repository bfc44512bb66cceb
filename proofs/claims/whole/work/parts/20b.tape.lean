/-! The tape: powers, and the whole scan -/
def sgnAt (f : Nat → Nat) (c i : Nat) : Nat := cond (decide (hr f c i = 45) || decide (hr f c i = 43)) (i + 1) i
theorem hr_in {f : Nat → Nat} {c i : Nat} (h : 0 ≤ hr f c i) : i < c ∧ hr f c i = f i := by
  unfold hr at h ⊢
  by_cases q : i < c
  · exact ⟨q, by rw [if_pos q]⟩
  · rw [if_neg q] at h; omega
theorem sgnAt_r {f : Nat → Nat} {c i : Nat} (hi : i ≤ c) : i ≤ sgnAt f c i ∧ sgnAt f c i ≤ c := by
  unfold sgnAt
  rcases Bool.eq_false_or_eq_true (decide (hr f c i = 45) || decide (hr f c i = 43)) with q | q
  · rw [q, cond_true]
    rw [Bool.or_eq_true] at q
    have : 0 ≤ hr f c i := by rcases q with z | z <;> (have := of_decide_eq_true z; omega)
    have := hr_in this
    omega
  · rw [q, cond_false]; omega
theorem spw_b {f : Nat → Nat} {c : Nat} : ∀ (m i x k : Nat), i ≤ c → x < 10 ^ k → i ≤ (spw f c m i x).1 ∧ (spw f c m i x).1 ≤ c ∧ (spw f c m i x).2 < 10 ^ (k + m)
  | 0, i, x, k, h1, h2 => ⟨Nat.le_refl _, h1, h2⟩
  | m + 1, i, x, k, h1, h2 => by
    unfold spw
    by_cases q : isd (hr f c i) = true
    · rw [if_pos q]
      have q2 := isd_t q
      have q3 := hr_in (f := f) (c := c) (i := i) (by omega)
      have := spw_b (f := f) (c := c) m (i + 1) (10 * x + (f i - 48)) (k + 1) (by omega) (by rw [Nat.pow_succ]; omega)
      rw [show k + (m + 1) = k + 1 + m from by omega]
      omega
    · rw [if_neg q]
      exact ⟨Nat.le_refl _, h1, Nat.lt_of_lt_of_le h2 (Nat.pow_le_pow_right (by decide) (by omega))⟩
set_option maxHeartbeats 4000000 in
set_option maxRecDepth 100000 in
theorem p_scanPower {d n c i tk D : Nat} {mi na : Bool} {f : Nat → Nat} {h : zH} (hT : TP h f c i tk 0 mi na D) (hf : bb f) (hc : c ≤ 80) (hi : i ≤ c) (hd : 2 ≤ d) :
    zM yX6_scanPower cX6_scanPower 4 (some .boolean) d 0 0 [.ref 30] h n (fun r h' n' => r = some (.int (iI (bz (decide (sgnAt f c i < (spw f c 3 (sgnAt f c i) 0).1))))) ∧ n' = n ∧ TP h' f c (spw f c 3 (sgnAt f c i) 0).1 tk (cond (decide (hr f c i = 45)) (-((spw f c 3 (sgnAt f c i) 0).2 : Int)) (spw f c 3 (sgnAt f c i) 0).2) mi na D ∧ zFr [30] h h') := by
  obtain ⟨h_30, h_31, hw⟩ := hT
  obtain ⟨s, es⟩ : ∃ s, sgnAt f c i = s := ⟨_, rfl⟩
  have hs := sgnAt_r (f := f) hi
  obtain ⟨R, eR⟩ : ∃ R, spw f c 3 s 0 = R := ⟨_, rfl⟩
  have hb := spw_b (f := f) (c := c) 3 s 0 0 (by omega) (by decide)
  obtain ⟨dn, edn⟩ : ∃ dn, decide (hr f c i = 45) = dn := ⟨_, rfl⟩
  rw [es] at hs
  rw [eR] at hb
  rw [es, eR, edn]
  refine zM_of zyX6_scanPower rfl (Nat.le_of_ble_eq_true rfl) (fun X hX => ?_)
  have fr : zFr [30] h h := zFr.rf
  have go : ∀ H : zH, H 30 = oTape 31 tk 32 (c:Nat) (s:Nat) 0 mi na → H 31 = aN 80 f → WD H 32 33 D → zFr [30] h H → (zV X (fun r h' n' => r = some (.int (iI (bz (decide (sgnAt f c i < (spw f c 3 (sgnAt f c i) 0).1))))) ∧ n' = n ∧ TP h' f c (spw f c 3 (sgnAt f c i) 0).1 tk (cond (decide (hr f c i = 45)) (-((spw f c 3 (sgnAt f c i) 0).2 : Int)) (spw f c 3 (sgnAt f c i) 0).2) mi na D ∧ zFr [30] h h') cX6_scanPower 4 RX6 (some .boolean) d 0 0 18 [(0, .ref 30), (1, .int (iI (bz dn)))] [] H n 0 0) := by
    intro H h_30 h_31 hw fr
    rw [es, eR, edn]
    have fin : ∀ (k : Int) (H : zH), H 30 = oTape 31 tk 32 (c:Nat) (R.1:Nat) (R.2:Nat) mi na → H 31 = aN 80 f → WD H 32 33 D → zFr [30] h H → (zV X (fun r h' n' => r = some (.int (iI (bz (decide (sgnAt f c i < (spw f c 3 (sgnAt f c i) 0).1))))) ∧ n' = n ∧ TP h' f c (spw f c 3 (sgnAt f c i) 0).1 tk (cond (decide (hr f c i = 45)) (-((spw f c 3 (sgnAt f c i) 0).2 : Int)) (spw f c 3 (sgnAt f c i) 0).2) mi na D ∧ zFr [30] h h') cX6_scanPower 4 RX6 (some .boolean) d 0 0 72 [(0, .ref 30), (1, .int (iI (bz dn))), (2, .int (iI (s:Nat))), (3, .int (iI k))] [] H n 0 0) := by
      intro k H h_30 h_31 hw fr
      rw [es, eR, edn]
      have fin2 : ∀ H : zH, TP H f c R.1 tk (cond dn (-(R.2 : Int)) R.2) mi na D → zFr [30] h H → (zV X (fun r h' n' => r = some (.int (iI (bz (decide (sgnAt f c i < (spw f c 3 (sgnAt f c i) 0).1))))) ∧ n' = n ∧ TP h' f c (spw f c 3 (sgnAt f c i) 0).1 tk (cond (decide (hr f c i = 45)) (-((spw f c 3 (sgnAt f c i) 0).2 : Int)) (spw f c 3 (sgnAt f c i) 0).2) mi na D ∧ zFr [30] h h') cX6_scanPower 4 RX6 (some .boolean) d 0 0 92 [(0, .ref 30), (2, .int (iI (s:Nat)))] [] H n 0 0) := by
        intro H hT fr
        rw [es, eR, edn]
        obtain ⟨h_30, h_31, hw⟩ := id hT
        refine v_aload_n dX6_scanPower_92 rfl ?_
        refine v_get fX6_24 dX6_scanPower_93 h_30 (by decide) rfl ?_
        refine v_iload_n dX6_scanPower_96 rfl ?_
        refine w_icmp_le 104 dX6_scanPower_97 (by decide) (by omega) (by omega) (fun c1 => ?_) (fun c1 => ?_)
        · skip
          refine v_iconst (iI 0) dX6_scanPower_104 rfl ?_
          refine w_ei (bz false) rfl ?_
          exact v_iret dX6_scanPower_105 bz_ret (Nat.le_of_ble_eq_true rfl) (Nat.le_of_ble_eq_true rfl) ⟨by rw [decide_eq_false (by omega)], rfl, hT, fr⟩
        · skip
          refine v_iconst (iI 1) dX6_scanPower_100 rfl ?_
          refine v_goto 105 dX6_scanPower_101 (by decide) ?_
          refine w_ei (bz true) rfl ?_
          exact v_iret dX6_scanPower_105 bz_ret (Nat.le_of_ble_eq_true rfl) (Nat.le_of_ble_eq_true rfl) ⟨by rw [decide_eq_true (by omega)], rfl, hT, fr⟩
      rw [es, eR, edn] at fin2
      refine v_aload_n dX6_scanPower_72 rfl ?_
      refine v_iload_n dX6_scanPower_73 rfl ?_
      refine w_ifb_eq 85 dX6_scanPower_74 (by decide) (fun c1 => ?_) (fun c1 => ?_)
      · skip
        refine v_aload_n dX6_scanPower_85 rfl ?_
        refine v_get fX6_30 dX6_scanPower_86 h_30 (by decide) rfl ?_
        refine w_ei (cond dn (-(R.2 : Int)) R.2) (by rw [c1, cond_false]) ?_
        refine v_put (fs' := [.ref 31, .int (iI (tk:Nat)), .ref 32, .int (iI (c:Nat)), .int (iI (R.1:Nat)), .int (iI (cond dn (-(R.2 : Int)) R.2)), .int (iI (bz mi)), .int (iI (bz na))]) fX6_30 dX6_scanPower_89 h_30 (by decide) (Nat.le_of_ble_eq_true rfl) rfl rfl rfl (fun H1 eH1 => ?_)
        have h_30 : H1 30 = oTape 31 (tk:Nat) 32 (c:Nat) (R.1:Nat) (cond dn (-(R.2 : Int)) R.2) mi na := zf_same eH1
        have h_31 := (zf_ne eH1 (by decide)).trans h_31
        have fr := fr.put eH1 (by simp)
        refine w_sub (lv2 := [(0, .ref 30), (2, .int (iI (s:Nat)))]) [0, 2] rfl ?_
        exact fin2 _ ⟨h_30, h_31, hw.fr (zFr.put (S := [30]) zFr.rf eH1 (by simp)) (by decide) (by decide)⟩ fr
      · skip
        refine v_aload_n dX6_scanPower_77 rfl ?_
        refine v_get fX6_30 dX6_scanPower_78 h_30 (by decide) rfl ?_
        refine w_ineg dX6_scanPower_81 ?_
        refine v_goto 89 dX6_scanPower_82 (by decide) ?_
        refine w_ei (cond dn (-(R.2 : Int)) R.2) (by rw [c1, cond_true]) ?_
        refine v_put (fs' := [.ref 31, .int (iI (tk:Nat)), .ref 32, .int (iI (c:Nat)), .int (iI (R.1:Nat)), .int (iI (cond dn (-(R.2 : Int)) R.2)), .int (iI (bz mi)), .int (iI (bz na))]) fX6_30 dX6_scanPower_89 h_30 (by decide) (Nat.le_of_ble_eq_true rfl) rfl rfl rfl (fun H1 eH1 => ?_)
        have h_30 : H1 30 = oTape 31 (tk:Nat) 32 (c:Nat) (R.1:Nat) (cond dn (-(R.2 : Int)) R.2) mi na := zf_same eH1
        have h_31 := (zf_ne eH1 (by decide)).trans h_31
        have fr := fr.put eH1 (by simp)
        refine w_sub (lv2 := [(0, .ref 30), (2, .int (iI (s:Nat)))]) [0, 2] rfl ?_
        exact fin2 _ ⟨h_30, h_31, hw.fr (zFr.put (S := [30]) zFr.rf eH1 (by simp)) (by decide) (by decide)⟩ fr
    rw [es, eR, edn] at fin
    have loop : ∀ (m k j x : Nat) (y : Int) (H : zH), k + m = 3 → y = k → j ≤ c → x < 10 ^ k → spw f c m j x = R → H 30 = oTape 31 tk 32 (c:Nat) (j:Nat) (x:Nat) mi na → H 31 = aN 80 f → WD H 32 33 D → zFr [30] h H → (zV X (fun r h' n' => r = some (.int (iI (bz (decide (sgnAt f c i < (spw f c 3 (sgnAt f c i) 0).1))))) ∧ n' = n ∧ TP h' f c (spw f c 3 (sgnAt f c i) 0).1 tk (cond (decide (hr f c i = 45)) (-((spw f c 3 (sgnAt f c i) 0).2 : Int)) (spw f c 3 (sgnAt f c i) 0).2) mi na D ∧ zFr [30] h h') cX6_scanPower 4 RX6 (some .boolean) d 0 0 25 [(0, .ref 30), (1, .int (iI (bz dn))), (2, .int (iI (s:Nat))), (3, .int (iI y))] [] H n 0 0) := by
      intro m
      induction m with
      | zero =>
        intro k j x y H hk ey hj hx e h_30 h_31 hw fr
        have e : (j, x) = R := e
        rw [es, eR, edn]
        refine v_iload_n dX6_scanPower_25 rfl ?_
        refine v_iconst (iI 3) dX6_scanPower_26 rfl ?_
        refine w_icmp_ge 72 dX6_scanPower_27 (by decide) (by omega) (by decide) (fun c1 => ?_) (fun c1 => ?_)
        · exact fin _ _ (by rw [← e]; exact h_30) h_31 hw fr
        · exact absurd c1 (by omega)
      | succ m ih =>
        intro k j x y H hk ey hj hx e h_30 h_31 hw fr
        rw [es, eR, edn] at ih ⊢
        have hx3 : (10 : Nat) ^ k ≤ 10 ^ 2 := Nat.pow_le_pow_right (by decide) (by omega)
        refine v_iload_n dX6_scanPower_25 rfl ?_
        refine v_iconst (iI 3) dX6_scanPower_26 rfl ?_
        refine w_icmp_ge 72 dX6_scanPower_27 (by decide) (by omega) (by decide) (fun c1 => ?_) (fun c1 => ?_)
        · exact absurd c1 (by omega)
        · skip
          refine v_aload_n dX6_scanPower_30 rfl ?_
          refine v_cV (av := []) (st := []) zyX6_isDigit lX6_59 h_30 rfl (p_isDigit (d := 1) h_30 h_31 hf hc (by omega) (by decide)) dX6_scanPower_31 rfl rfl (Nat.le_of_ble_eq_true rfl) (by omega) (Nat.le_of_ble_eq_true rfl) (Nat.le_of_ble_eq_true rfl) (Or.inl (fun _ _ _ q => ZN q)) (fun r9 K1 n9 q9 => ?_)
          obtain ⟨rfl, q9n, q9h⟩ := q9
          have q9n := q9n.symm
          subst q9n
          have q9h := q9h.symm
          subst q9h
          refine w_ifb_eq 72 dX6_scanPower_34 (by decide) (fun c2 => ?_) (fun c2 => ?_)
          · have e : (j, x) = R := by rw [← e]; unfold spw; rw [if_neg (by rw [c2]; decide)]
            exact fin _ _ (by rw [← e]; exact h_30) h_31 hw fr
          · have hdj := isd_t c2
            have hin := hr_in (f := f) (c := c) (i := j) (by omega)
            have e9 : spw f c m (j + 1) (10 * x + (f j - 48)) = R := by rw [← e]; show _ = (if _ then _ else _); rw [if_pos c2]
            refine v_aload_n dX6_scanPower_37 rfl ?_
            refine v_bipush (iI 10) dX6_scanPower_38 rfl ?_
            refine v_aload_n dX6_scanPower_40 rfl ?_
            refine v_get fX6_30 dX6_scanPower_41 h_30 (by decide) rfl ?_
            refine w_imul dX6_scanPower_44 ?_
            refine v_aload_n dX6_scanPower_45 rfl ?_
            refine v_cV (av := []) (st := [.int (iI (10 * (x:Nat))), .ref 30]) zyX6_here lX6_37 h_30 rfl (p_here (d := 1) h_30 h_31 hc (by omega)) dX6_scanPower_46 rfl rfl (Nat.le_of_ble_eq_true rfl) (by omega) (Nat.le_of_ble_eq_true rfl) (Nat.le_of_ble_eq_true rfl) (Or.inl (fun _ _ _ q => ZN q)) (fun r9 K2 n9 q9 => ?_)
            obtain ⟨rfl, q9n, q9h⟩ := q9
            have q9n := q9n.symm
            subst q9n
            have q9h := q9h.symm
            subst q9h
            refine w_iadd dX6_scanPower_49 ?_
            refine v_bipush (iI 48) dX6_scanPower_50 rfl ?_
            refine w_isub dX6_scanPower_52 ?_
            refine w_ei (10 * x + (f j - 48):Nat) (by omega) ?_
            refine v_put (fs' := [.ref 31, .int (iI (tk:Nat)), .ref 32, .int (iI (c:Nat)), .int (iI (j:Nat)), .int (iI (10 * x + (f j - 48):Nat)), .int (iI (bz mi)), .int (iI (bz na))]) fX6_30 dX6_scanPower_53 h_30 (by decide) (Nat.le_of_ble_eq_true rfl) rfl rfl rfl (fun H1 eH1 => ?_)
            have h_30 : H1 30 = oTape 31 (tk:Nat) 32 (c:Nat) (j:Nat) (10 * x + (f j - 48):Nat) mi na := zf_same eH1
            have h_31 := (zf_ne eH1 (by decide)).trans h_31
            have fr := fr.put eH1 (by simp)
            refine v_aload_n dX6_scanPower_56 rfl ?_
            refine v_dup dX6_scanPower_57 rfl ?_
            refine v_get fX6_24 dX6_scanPower_58 h_30 (by decide) rfl ?_
            refine v_iconst (iI 1) dX6_scanPower_61 rfl ?_
            refine w_iadd dX6_scanPower_62 ?_
            refine w_ei (j + 1:Nat) (by omega) ?_
            refine v_put (fs' := [.ref 31, .int (iI (tk:Nat)), .ref 32, .int (iI (c:Nat)), .int (iI (j + 1:Nat)), .int (iI (10 * x + (f j - 48):Nat)), .int (iI (bz mi)), .int (iI (bz na))]) fX6_24 dX6_scanPower_63 h_30 (by decide) (Nat.le_of_ble_eq_true rfl) rfl rfl rfl (fun H2 eH2 => ?_)
            have h_30 : H2 30 = oTape 31 (tk:Nat) 32 (c:Nat) (j + 1:Nat) (10 * x + (f j - 48):Nat) mi na := zf_same eH2
            have h_31 := (zf_ne eH2 (by decide)).trans h_31
            have fr := fr.put eH2 (by simp)
            refine w_iinc (lv' := [(3, .int (iI (y + 1))), (0, .ref 30), (1, .int (iI (bz dn))), (2, .int (iI (s:Nat)))]) dX6_scanPower_66 rfl (by decide) rfl ?_
            refine v_goto 25 dX6_scanPower_69 (by decide) ?_
            refine w_sub (lv2 := [(0, .ref 30), (1, .int (iI (bz dn))), (2, .int (iI (s:Nat))), (3, .int (iI (y + 1)))]) [1, 2, 3, 0] rfl ?_
            have fz : zFr [30] H H2 := (zFr.put zFr.rf eH1 (by simp)).put eH2 (by simp)
            exact ih (k + 1) (j + 1) (10 * x + (f j - 48)) (y + 1) _ (by omega) (by omega) (by omega) (by rw [Nat.pow_succ]; omega) e9 h_30 h_31 (hw.fr fz (by decide) (by decide)) fr
    rw [es, eR, edn] at loop
    refine v_aload_n dX6_scanPower_18 rfl ?_
    refine v_get fX6_24 dX6_scanPower_19 h_30 (by decide) rfl ?_
    refine v_istore_n (i := 2) (lv' := [(2, .int (iI (s:Nat))), (0, .ref 30), (1, .int (iI (bz dn)))]) dX6_scanPower_22 rfl (by decide) rfl ?_
    refine v_iconst (iI 0) dX6_scanPower_23 rfl ?_
    refine v_istore_n (i := 3) (lv' := [(3, .int (iI 0)), (2, .int (iI (s:Nat))), (0, .ref 30), (1, .int (iI (bz dn)))]) dX6_scanPower_24 rfl (by decide) rfl ?_
    refine w_sub (lv2 := [(0, .ref 30), (1, .int (iI (bz dn))), (2, .int (iI (s:Nat))), (3, .int (iI 0))]) [2, 3, 1, 0] rfl ?_
    exact loop 3 0 s 0 0 _ rfl rfl (by omega) (by decide) eR h_30 h_31 hw fr
  rw [es, eR, edn] at go
  refine v_aload_n dX6_scanPower_0 rfl ?_
  refine v_bipush (iI 45) dX6_scanPower_1 rfl ?_
  refine v_cV (av := [.int (iI 45)]) (st := []) zyX6_pass lX6_45 h_30 rfl (p_pass (d := 1) h_30 h_31 hf hc (by omega) (by decide) (by decide)) dX6_scanPower_3 rfl rfl (Nat.le_of_ble_eq_true rfl) (by omega) (Nat.le_of_ble_eq_true rfl) (Nat.le_of_ble_eq_true rfl) (Or.inl (fun _ _ _ q => ZN q)) (fun r9 G1 n9 q9 => ?_)
  obtain ⟨rfl, q9n, h_30, fr9⟩ := q9
  have q9n := q9n.symm
  subst q9n
  have h_31 := (fr9 31 (by decide)).trans h_31
  have hw := hw.fr fr9 (by decide) (by decide)
  rw [edn] at h_30 ⊢
  refine v_istore_n (i := 1) (lv' := [(1, .int (iI (bz dn))), (0, .ref 30)]) dX6_scanPower_6 rfl (by decide) rfl ?_
  refine v_iload_n dX6_scanPower_7 rfl ?_
  refine w_ifb_ne 18 dX6_scanPower_8 (by decide) (fun c1 => ?_) (fun c1 => ?_)
  · skip
    refine w_sub (lv2 := [(0, .ref 30), (1, .int (iI (bz dn)))]) [1, 0] rfl ?_
    exact go _ (by rw [← es]; unfold sgnAt; rw [edn, c1, Bool.true_or, cond_true]; rw [c1, cond_true] at h_30; exact h_30) h_31 hw fr9
  · rw [c1, cond_false] at h_30
    refine v_aload_n dX6_scanPower_11 rfl ?_
    refine v_bipush (iI 43) dX6_scanPower_12 rfl ?_
    refine v_cV (av := [.int (iI 43)]) (st := []) zyX6_pass lX6_45 h_30 rfl (p_pass (d := 1) h_30 h_31 hf hc (by omega) (by decide) (by decide)) dX6_scanPower_14 rfl rfl (Nat.le_of_ble_eq_true rfl) (by omega) (Nat.le_of_ble_eq_true rfl) (Nat.le_of_ble_eq_true rfl) (Or.inl (fun _ _ _ q => ZN q)) (fun r9 G2 n9 q9 => ?_)
    obtain ⟨rfl, q9n, h_30, fr8⟩ := q9
    have q9n := q9n.symm
    subst q9n
    have h_31 := (fr8 31 (by decide)).trans h_31
    have hw := hw.fr fr8 (by decide) (by decide)
    refine v_pop dX6_scanPower_17 rfl ?_
    refine w_sub (lv2 := [(0, .ref 30), (1, .int (iI (bz dn)))]) [1, 0] rfl ?_
    exact go _ (by rw [← es]; unfold sgnAt; rw [edn, c1, Bool.false_or]; exact h_30) h_31 hw (fr9.tr fr8 (by decide))
