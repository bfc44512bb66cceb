/-! The reference: whole numbers and turns -/
theorem wlv_sc {how M : Nat} {s E : Int} (hE : -120 ≤ E) : wlv how s (M * 2 ^ (E + 120).toNat) (-120) = wlv how s M E := by
  unfold wlv
  rw [if_neg (show ¬ (0 : Int) ≤ -120 by decide), show (- -120 : Int).toNat = 120 from rfl]
  by_cases z : 0 ≤ E
  · rw [if_pos z, show (E + 120).toNat = E.toNat + 120 from by omega, Nat.pow_add, ← Nat.mul_assoc, Nat.mul_div_cancel _ (p_pos 120)]
    have : wup how (decide (0 < s)) (M * 2 ^ E.toNat * 2 ^ 120) 120 = false := by
      unfold wup
      rw [Nat.mul_mod_left]
      split
      · rw [decide_eq_false (show ¬ 2 ^ 120 < 2 * 0 by decide), decide_eq_false (show ¬ 2 * 0 = 2 ^ 120 by decide)]; rfl
      · rfl
    rw [this]; rfl
  · rw [if_neg z]
    obtain ⟨t, k, et, ek, e1⟩ : ∃ t k : Nat, (-E).toNat = t ∧ (E + 120).toNat = k ∧ t + k = 120 := ⟨_, _, rfl, rfl, by omega⟩
    rw [et, ek, ← e1]
    have hk := p_pos k
    have e2 : M * 2 ^ k / 2 ^ (t + k) = M / 2 ^ t := by rw [Nat.pow_add]; exact Nat.mul_div_mul_right _ _ hk
    have e3 : M * 2 ^ k % 2 ^ (t + k) = M % 2 ^ t * 2 ^ k := by rw [Nat.pow_add]; exact Nat.mul_mod_mul_right _ _ _
    have e4 : wup how (decide (0 < s)) (M * 2 ^ k) (t + k) = wup how (decide (0 < s)) M t := by
      unfold wup
      rw [e2, e3, Nat.pow_add]
      have i1 : 2 ^ t * 2 ^ k < 2 * (M % 2 ^ t * 2 ^ k) ↔ 2 ^ t < 2 * (M % 2 ^ t) := by rw [← Nat.mul_assoc]; exact Nat.mul_lt_mul_right hk
      have i2 : 2 * (M % 2 ^ t * 2 ^ k) = 2 ^ t * 2 ^ k ↔ 2 * (M % 2 ^ t) = 2 ^ t := by rw [← Nat.mul_assoc]; exact ⟨fun z => Nat.mul_right_cancel hk z, fun z => by rw [z]⟩
      have i3 : M % 2 ^ t * 2 ^ k ≠ 0 ↔ M % 2 ^ t ≠ 0 := by
        constructor
        · intro a b; rw [b, Nat.zero_mul] at a; exact a rfl
        · intro a b; rcases Nat.mul_eq_zero.mp b with c | c
          · exact a c
          · omega
      simp only [i1, i2, i3]
    rw [e2, e4]
/-- a value's whole number -/
noncomputable def mwv (how : Nat) (pv : Int) : Nat := wlv how (sgI pv) pv.natAbs (-120)
theorem lk_wl {p n M : Nat} {s E : Int} (how : Nat) (h : lk p n s M E) (hp : p ≠ 2 ^ (n - 1)) : wlv how s M E = mwv how (pvI p n) := by
  have h1 := lk_sg h hp
  unfold mwv
  rw [← h1.1]
  by_cases z : s = 0
  · rcases lk_pv h hp with ⟨q1, q2, q3, q4, q5⟩ | ⟨q1, q2, -⟩
    · rw [q5, q3, q4, z]
      have e9 : ∀ t : Nat, 0 % 2 ^ t = 0 := fun t => Nat.zero_mod _
      have e8 : ∀ t : Nat, wup how (decide ((0 : Int) < 0)) 0 t = false := fun t => by
        unfold wup
        rw [e9]
        have := p_pos t
        split
        · rw [decide_eq_false (by omega), decide_eq_false (by omega)]; rfl
        · rfl
      unfold wlv
      rw [if_pos (by decide), if_neg (by decide), show (0 : Int).natAbs = 0 from rfl, e8, Nat.zero_div, Nat.zero_mul]
      rfl
    · omega
  · obtain ⟨h2, h3, -⟩ := h1.2 z
    rw [h2, wlv_sc h3]
theorem lk_hl {p n M : Nat} {s E : Int} (h : lk p n s M E) (hp : p ≠ 2 ^ (n - 1)) (hM : M < 4294967296) : (s = 0 ∧ M = 0 ∧ E = 0) ∨ ((s = 1 ∨ s = -1) ∧ 0 < M ∧ M < 4294967296 ∧ -120 ≤ E ∧ E ≤ 120) := by
  rcases lk_pv h hp with ⟨-, q2, q3, q4, -⟩ | ⟨-, q2, q3, q4, q5, -⟩
  · exact Or.inl ⟨q2, q3, q4⟩
  · exact Or.inr ⟨q2, q3, hM, q4, q5⟩
noncomputable def mwB (p n : Nat) : Bool := decide (p = 2 ^ (n - 1)) || decide (9223372036854775808 ≤ mwv 3 (pvI p n) ∧ ¬ (pvI p n < 0 ∧ mwv 3 (pvI p n) = 9223372036854775808))
theorem nb_64 {W : Nat} : (64 < nb W ↔ 2 ^ 64 ≤ W) ∧ (63 < nb W ↔ 2 ^ 63 ≤ W) := by
  have h1 := nb_hi W
  constructor
  · constructor
    · intro z
      rcases Nat.lt_or_ge W (2 ^ 64) with q | q
      · have := nb_le q; omega
      · exact q
    · intro z
      rcases Nat.lt_or_ge 64 (nb W) with q | q
      · exact q
      · have : 2 ^ nb W ≤ 2 ^ 64 := Nat.pow_le_pow_right (by decide) q
        omega
  · constructor
    · intro z
      rcases Nat.lt_or_ge W (2 ^ 63) with q | q
      · have := nb_le q; omega
      · exact q
    · intro z
      rcases Nat.lt_or_ge 63 (nb W) with q | q
      · exact q
      · have : 2 ^ nb W ≤ 2 ^ 63 := Nat.pow_le_pow_right (by decide) q
        omega
set_option maxHeartbeats 8000000 in
set_option maxRecDepth 100000 in
theorem p_Mwholex {d n tc : Nat} {wd pt tf : Nat → Nat} {Q : Nat → Int} {qn : Nat → Bool} {L : List Nat} {th r : Int} {h : zH} (hM : MD h wd pt Q qn tf tc L th) (hr_r : -2147483648 ≤ r ∧ r < 2147483648) (hx : isP r = false) (hd : 2 ≤ d) :
    zM yX11_whole cX11_whole 6 (some .long) d 0 0 [.ref 47, .int (iI r)] h n (fun r9 h' n' => r9 = some (.long (jL 0)) ∧ n' = n ∧ MD h' wd pt Q qn tf tc L 1 ∧ zFr MOL h h') := by
  obtain ⟨vs, vm, ve, sg, e, rt, at9, sz, dg, pw, tn, fm, h_47, h_48, h_49, ⟨nA, nB, nL, nR, nP, nS, nN, nD, nLo, nUp⟩, h_58, ⟨Q0, n0, hS⟩, hq, h_66, ⟨tx, h_67, hbb, htx⟩, ⟨fg, h_68⟩, ⟨fw, h_73⟩⟩ := id hM
  refine zM_of zyX11_whole rfl (Nat.le_of_ble_eq_true rfl) (fun X hX => ?_)
  have fr : zFr MOL h h := zFr.rf
  refine v_aload_n dX11_whole_0 rfl ?_
  refine v_iload_n dX11_whole_1 rfl ?_
  refine v_cS (av := [.int (iI r)]) (st := [.ref 47]) zyX11_isPlace lX11_165 (p_isPlace (d := 1) hr_r) dX11_whole_2 rfl rfl (Nat.le_of_ble_eq_true rfl) (by omega) (Nat.le_of_ble_eq_true rfl) (Nat.le_of_ble_eq_true rfl) (Or.inl (fun _ _ _ q => ZN q)) (fun r9 K1 n9 q9 => ?_)
  obtain ⟨rfl, q9n, q9h⟩ := q9
  have q9n := q9n.symm
  subst q9n
  have q9h := q9h.symm
  subst q9h
  refine w_ei (bz (isP r)) rfl ?_
  refine w_ifb_eq 12 dX11_whole_5 (by decide) (fun c1 => ?_) (fun c1 => ?_)
  · skip
    refine v_iconst (iI 1) dX11_whole_12 rfl ?_
    refine v_put (fs' := [.int (iI vs), .long (jL vm), .int (iI ve), .ref 48, .ref 49, .int (iI sg), .ref 50, .ref 52, .int (iI e), .int (iI rt), .ref 54, .ref 56, .ref 58, .ref 59, .ref 62, .ref 64, .int (iI 1), .ref 66, .int (iI (tc:Nat)), .ref 67, .int (iI (L.length:Nat)), .int (iI at9), .int (iI sz), .int (iI dg), .int (iI pw), .ref 68, .ref 69, .ref 71, .int (iI tn), .ref 73, .int (iI fm), .ref 74, .ref 76]) fX11_162 dX11_whole_13 h_47 (by decide) (Nat.le_of_ble_eq_true rfl) rfl rfl rfl (fun H1 eH1 => ?_)
    have h_47 : H1 47 = oModel vs vm ve sg e rt 1 (tc:Nat) (L.length:Nat) at9 sz dg pw tn fm := zf_same eH1
    have h_48 := (zf_ne eH1 (by decide)).trans h_48
    have h_49 := (zf_ne eH1 (by decide)).trans h_49
    have fr := fr.put eH1 (by simp)
    have fz : zFr [47] h H1 := zFr.put zFr.rf eH1 (by simp)
    have h_58 := (fz 58 (by decide)).trans h_58
    have h_66 := (fz 66 (by decide)).trans h_66
    have h_67 := (fz 67 (by decide)).trans h_67
    have h_68 := (fz 68 (by decide)).trans h_68
    have h_73 := (fz 73 (by decide)).trans h_73
    have nA := nA.fr fz (by decide) (by decide)
    have nB := nB.fr fz (by decide) (by decide)
    have nL := nL.fr fz (by decide) (by decide)
    have nR := nR.fr fz (by decide) (by decide)
    have nP := nP.fr fz (by decide) (by decide)
    have nS := nS.fr fz (by decide) (by decide)
    have nN := nN.fr fz (by decide) (by decide)
    have nD := nD.fr fz (by decide) (by decide)
    have nLo := nLo.fr fz (by decide) (by decide)
    have nUp := nUp.fr fz (by decide) (by decide)
    have hS := hS.fr fz (by decide) (by decide) (by decide)
    have hq := hq.fr fz (by decide)
    refine v_aload_n dX11_whole_16 rfl ?_
    refine v_get fX11_162 dX11_whole_17 h_47 (by decide) rfl ?_
    refine w_if_eq 25 dX11_whole_20 (by decide) (by decide) (fun c2 => ?_) (fun c2 => ?_)
    · exact absurd c2 (by decide)
    · skip
      refine v_lconst (jL 0) dX11_whole_23 rfl ?_
      exact v_lret dX11_whole_24 trivial (Nat.le_of_ble_eq_true rfl) (Nat.le_of_ble_eq_true rfl) ⟨rfl, rfl, ⟨_, _, _, _, _, _, _, _, _, _, _, _, h_47, h_48, h_49, ⟨nA, nB, nL, nR, nP, nS, nN, nD, nLo, nUp⟩, h_58, ⟨_, _, hS⟩, hq, h_66, ⟨_, h_67, hbb, htx⟩, ⟨_, h_68⟩, ⟨_, h_73⟩⟩, fr⟩
  · rw [hx] at c1; exact absurd c1 (by decide)
set_option maxHeartbeats 8000000 in
set_option maxRecDepth 100000 in
theorem p_Mwhole {d n tc a1 : Nat} {wd pt tf : Nat → Nat} {Q : Nat → Int} {qn : Nat → Bool} {L : List Nat} {th : Int} {h : zH} (hM : MD h wd pt Q qn tf tc L th) (hPL : PL wd pt) (h1 : a1 < 32) (hd : 7 ≤ d) :
    zM yX11_whole cX11_whole 6 (some .long) d 0 0 [.ref 47, .int (iI (a1:Nat))] h n (fun r9 h' n' => r9 = some (.long (jL (cond (mwB (pt a1) (wd a1)) 0 (sgI (pvI (pt a1) (wd a1)) * (mwv 3 (pvI (pt a1) (wd a1)) : Nat))))) ∧ n' = n ∧ MD h' wd pt Q qn tf tc L (cond (mwB (pt a1) (wd a1)) 2 0) ∧ zFr MOL h h') := by
  obtain ⟨vs, vm, ve, sg, e, rt, at9, sz, dg, pw, tn, fm, h_47, h_48, h_49, ⟨nA, nB, nL, nR, nP, nS, nN, nD, nLo, nUp⟩, h_58, ⟨Q0, n0, hS⟩, hq, h_66, ⟨tx, h_67, hbb, htx⟩, ⟨fg, h_68⟩, ⟨fw, h_73⟩⟩ := id hM
  have w1 := hPL a1 h1
  refine zM_of zyX11_whole rfl (Nat.le_of_ble_eq_true rfl) (fun X hX => ?_)
  have fr : zFr MOL h h := zFr.rf
  refine v_aload_n dX11_whole_0 rfl ?_
  refine v_iload_n dX11_whole_1 rfl ?_
  refine v_cS (av := [.int (iI (a1:Nat))]) (st := [.ref 47]) zyX11_isPlace lX11_165 (p_isPlaceT (d := 6) h1) dX11_whole_2 rfl rfl (Nat.le_of_ble_eq_true rfl) (by omega) (Nat.le_of_ble_eq_true rfl) (Nat.le_of_ble_eq_true rfl) (Or.inl (fun _ _ _ q => ZN q)) (fun r9 K1 n9 q9 => ?_)
  obtain ⟨rfl, q9n, q9h⟩ := q9
  have q9n := q9n.symm
  subst q9n
  have q9h := q9h.symm
  subst q9h
  refine w_ifb_eq 12 dX11_whole_5 (by decide) (fun c1 => ?_) (fun c1 => ?_)
  · exact absurd c1 (by decide)
  · skip
    refine v_iconst (iI 0) dX11_whole_8 rfl ?_
    refine v_goto 13 dX11_whole_9 (by decide) ?_
    refine v_put (fs' := [.int (iI vs), .long (jL vm), .int (iI ve), .ref 48, .ref 49, .int (iI sg), .ref 50, .ref 52, .int (iI e), .int (iI rt), .ref 54, .ref 56, .ref 58, .ref 59, .ref 62, .ref 64, .int (iI 0), .ref 66, .int (iI (tc:Nat)), .ref 67, .int (iI (L.length:Nat)), .int (iI at9), .int (iI sz), .int (iI dg), .int (iI pw), .ref 68, .ref 69, .ref 71, .int (iI tn), .ref 73, .int (iI fm), .ref 74, .ref 76]) fX11_162 dX11_whole_13 h_47 (by decide) (Nat.le_of_ble_eq_true rfl) rfl rfl rfl (fun H1 eH1 => ?_)
    have h_47 : H1 47 = oModel vs vm ve sg e rt 0 (tc:Nat) (L.length:Nat) at9 sz dg pw tn fm := zf_same eH1
    have h_48 := (zf_ne eH1 (by decide)).trans h_48
    have h_49 := (zf_ne eH1 (by decide)).trans h_49
    have fr := fr.put eH1 (by simp)
    have fz : zFr [47] h H1 := zFr.put zFr.rf eH1 (by simp)
    have h_58 := (fz 58 (by decide)).trans h_58
    have h_66 := (fz 66 (by decide)).trans h_66
    have h_67 := (fz 67 (by decide)).trans h_67
    have h_68 := (fz 68 (by decide)).trans h_68
    have h_73 := (fz 73 (by decide)).trans h_73
    have nA := nA.fr fz (by decide) (by decide)
    have nB := nB.fr fz (by decide) (by decide)
    have nL := nL.fr fz (by decide) (by decide)
    have nR := nR.fr fz (by decide) (by decide)
    have nP := nP.fr fz (by decide) (by decide)
    have nS := nS.fr fz (by decide) (by decide)
    have nN := nN.fr fz (by decide) (by decide)
    have nD := nD.fr fz (by decide) (by decide)
    have nLo := nLo.fr fz (by decide) (by decide)
    have nUp := nUp.fr fz (by decide) (by decide)
    have hS := hS.fr fz (by decide) (by decide) (by decide)
    have hq := hq.fr fz (by decide)
    have hMM : MD H1 wd pt Q qn tf tc L 0 := ⟨_, _, _, _, _, _, _, _, _, _, _, _, h_47, h_48, h_49, ⟨nA, nB, nL, nR, nP, nS, nN, nD, nLo, nUp⟩, h_58, ⟨_, _, hS⟩, hq, h_66, ⟨_, h_67, hbb, htx⟩, ⟨_, h_68⟩, ⟨_, h_73⟩⟩
    refine v_aload_n dX11_whole_16 rfl ?_
    refine v_get fX11_162 dX11_whole_17 h_47 (by decide) rfl ?_
    refine w_if_eq 25 dX11_whole_20 (by decide) (by decide) (fun c2 => ?_) (fun c2 => ?_)
    · skip
      refine v_aload_n dX11_whole_25 rfl ?_
      refine v_iload_n dX11_whole_26 rfl ?_
      refine v_cV (av := [.int (iI (a1:Nat))]) (st := []) zyX11_isNar lX11_176 h_47 rfl (p_misNar (d := 6) h_47 h_48 h_49 hPL h1) dX11_whole_27 rfl rfl (Nat.le_of_ble_eq_true rfl) (by omega) (Nat.le_of_ble_eq_true rfl) (Nat.le_of_ble_eq_true rfl) (Or.inl (fun _ _ _ q => ZN q)) (fun r9 K2 n9 q9 => ?_)
      obtain ⟨rfl, q9n, q9h⟩ := q9
      have q9n := q9n.symm
      subst q9n
      have q9h := q9h.symm
      subst q9h
      refine w_ifb_eq 40 dX11_whole_30 (by decide) (fun x1 => ?_) (fun x1 => ?_)
      · have x1 := of_decide_eq_false x1
        refine v_aload_n dX11_whole_40 rfl ?_
        refine v_iload_n dX11_whole_41 rfl ?_
        refine v_cV (av := [.int (iI (a1:Nat))]) (st := []) zyX11_look lX11_112 h_47 rfl (p_look (d := 6) h_47 h_48 h_49 hPL h1 (by decide)) dX11_whole_42 rfl rfl (Nat.le_of_ble_eq_true rfl) (by omega) (Nat.le_of_ble_eq_true rfl) (Nat.le_of_ble_eq_true rfl) (Or.inl (fun _ _ _ q => ZN q)) (fun r9 G1 n9 q9 => ?_)
        obtain ⟨rfl, q9n, ⟨s, M, E, h_47, hl, hM2, hE1, hE2⟩, fr9⟩ := q9
        have q9n := q9n.symm
        subst q9n
        have h_48 := (fr9 48 (by decide)).trans h_48
        have h_49 := (fr9 49 (by decide)).trans h_49
        have h_58 := (fr9 58 (by decide)).trans h_58
        have h_66 := (fr9 66 (by decide)).trans h_66
        have h_67 := (fr9 67 (by decide)).trans h_67
        have h_68 := (fr9 68 (by decide)).trans h_68
        have h_73 := (fr9 73 (by decide)).trans h_73
        have nA := nA.fr fr9 (by decide) (by decide)
        have nB := nB.fr fr9 (by decide) (by decide)
        have nL := nL.fr fr9 (by decide) (by decide)
        have nR := nR.fr fr9 (by decide) (by decide)
        have nP := nP.fr fr9 (by decide) (by decide)
        have nS := nS.fr fr9 (by decide) (by decide)
        have nN := nN.fr fr9 (by decide) (by decide)
        have nD := nD.fr fr9 (by decide) (by decide)
        have nLo := nLo.fr fr9 (by decide) (by decide)
        have nUp := nUp.fr fr9 (by decide) (by decide)
        have hS := hS.fr fr9 (by decide) (by decide) (by decide)
        have hq := hq.fr fr9 (by decide)
        have fr := fr.tr fr9 (by decide)
        obtain ⟨es, hsz⟩ := lk_sg hl x1
        have hsr := sgI_r (pvI (pt a1) (wd a1))
        have hsc := sgI_c (pvI (pt a1) (wd a1))
        rw [← es] at hsr hsc
        refine v_aload_n dX11_whole_45 rfl ?_
        refine v_iconst (iI 3) dX11_whole_46 rfl ?_
        refine v_cV (av := [.int (iI 3)]) (st := []) zyX11_wholeOf lX11_195 h_47 rfl (p_wholeOf (d := 6) (how := 3) h_47 nP (by decide) (lk_hl hl x1 hM2) (by decide)) dX11_whole_47 rfl rfl (Nat.le_of_ble_eq_true rfl) (by omega) (Nat.le_of_ble_eq_true rfl) (Nat.le_of_ble_eq_true rfl) (Or.inl (fun _ _ _ q => ZN q)) (fun r9 G2 n9 q9 => ?_)
        obtain ⟨rfl, q9n, hP, fr8⟩ := q9
        have q9n := q9n.symm
        subst q9n
        obtain ⟨W, eW⟩ : ∃ W, wlv 3 s M E = W := ⟨_, rfl⟩
        have eW2 := lk_wl 3 hl x1
        rw [eW] at hP eW2
        obtain ⟨sv, esv⟩ : ∃ sv : Int, (if W = 0 then 0 else s) = sv := ⟨_, rfl⟩
        refine w_ei sv (by rw [eW, esv]) ?_
        have hsv : (W = 0 ∧ sv = 0) ∨ (W ≠ 0 ∧ sv = s) := by
          rw [← esv]
          by_cases z : W = 0
          · left; rw [if_pos z]; exact ⟨z, rfl⟩
          · right; rw [if_neg z]; exact ⟨z, rfl⟩
        have hs0 : s = 0 → W = 0 := fun z => by
          rcases lk_hl hl x1 hM2 with ⟨-, y2, y3⟩ | ⟨y1, -⟩
          · rw [← eW, y2, y3]; unfold wlv; rw [if_pos (Int.le_refl 0), Nat.zero_mul]
          · omega
        have h_47 := (fr8 47 (by decide)).trans h_47
        have h_48 := (fr8 48 (by decide)).trans h_48
        have h_49 := (fr8 49 (by decide)).trans h_49
        have h_58 := (fr8 58 (by decide)).trans h_58
        have h_66 := (fr8 66 (by decide)).trans h_66
        have h_67 := (fr8 67 (by decide)).trans h_67
        have h_68 := (fr8 68 (by decide)).trans h_68
        have h_73 := (fr8 73 (by decide)).trans h_73
        have nA := nA.fr fr8 (by decide) (by decide)
        have nB := nB.fr fr8 (by decide) (by decide)
        have nL := nL.fr fr8 (by decide) (by decide)
        have nR := nR.fr fr8 (by decide) (by decide)
        have nS := nS.fr fr8 (by decide) (by decide)
        have nN := nN.fr fr8 (by decide) (by decide)
        have nD := nD.fr fr8 (by decide) (by decide)
        have nLo := nLo.fr fr8 (by decide) (by decide)
        have nUp := nUp.fr fr8 (by decide) (by decide)
        have hS := hS.fr fr8 (by decide) (by decide) (by decide)
        have hq := hq.fr fr8 (by decide)
        have fr := fr.tr fr8 (by decide)
        have nP := hP.ns
        obtain ⟨u9, f9, h_62, h_63, hf9, hu9, hv9, htop⟩ := id hP
        have hnb : nb W ≤ 12600 := by
          have := nb_le (x := W) (k := 30 * u9) (by rw [← hv9]; exact nv_lt hf9 u9)
          omega
        obtain ⟨nb1, nb2⟩ := nb_64 (W := W)
        refine v_istore_n (i := 2) (lv' := [(2, .int (iI sv)), (0, .ref 47), (1, .int (iI (a1:Nat)))]) dX11_whole_50 rfl (by decide) rfl ?_
        refine w_sub (lv2 := [(0, .ref 47), (1, .int (iI (a1:Nat))), (2, .int (iI sv))]) [1, 2, 0] rfl ?_
        have bad : mwB (pt a1) (wd a1) = true → (zV X (fun r9 h' n' => r9 = some (.long (jL (cond (mwB (pt a1) (wd a1)) 0 (sgI (pvI (pt a1) (wd a1)) * (mwv 3 (pvI (pt a1) (wd a1)) : Nat))))) ∧ n' = n ∧ MD h' wd pt Q qn tf tc L (cond (mwB (pt a1) (wd a1)) 2 0) ∧ zFr MOL h h') cX11_whole 6 RX11 (some .long) d 0 0 102 [(0, .ref 47), (1, .int (iI (a1:Nat))), (2, .int (iI sv))] [] G2 n 0 0) := by
          intro hB
          refine v_aload_n dX11_whole_102 rfl ?_
          refine v_iconst (iI 2) dX11_whole_103 rfl ?_
          refine v_put (fs' := [.int (iI s), .long (jL (M:Nat)), .int (iI E), .ref 48, .ref 49, .int (iI sg), .ref 50, .ref 52, .int (iI e), .int (iI rt), .ref 54, .ref 56, .ref 58, .ref 59, .ref 62, .ref 64, .int (iI 2), .ref 66, .int (iI (tc:Nat)), .ref 67, .int (iI (L.length:Nat)), .int (iI at9), .int (iI sz), .int (iI dg), .int (iI pw), .ref 68, .ref 69, .ref 71, .int (iI tn), .ref 73, .int (iI fm), .ref 74, .ref 76]) fX11_162 dX11_whole_104 h_47 (by decide) (Nat.le_of_ble_eq_true rfl) rfl rfl rfl (fun H1 eH1 => ?_)
          have h_47 : H1 47 = oModel s (M:Nat) E sg e rt 2 (tc:Nat) (L.length:Nat) at9 sz dg pw tn fm := zf_same eH1
          have h_48 := (zf_ne eH1 (by decide)).trans h_48
          have h_49 := (zf_ne eH1 (by decide)).trans h_49
          have h_62 := (zf_ne eH1 (by decide)).trans h_62
          have h_63 := (zf_ne eH1 (by decide)).trans h_63
          have fr := fr.put eH1 (by simp)
          refine v_lconst (jL 0) dX11_whole_107 rfl ?_
          have fz : zFr [47] G2 H1 := zFr.put zFr.rf eH1 (by simp)
          have h_58 := (fz 58 (by decide)).trans h_58
          have h_66 := (fz 66 (by decide)).trans h_66
          have h_67 := (fz 67 (by decide)).trans h_67
          have h_68 := (fz 68 (by decide)).trans h_68
          have h_73 := (fz 73 (by decide)).trans h_73
          have nA := nA.fr fz (by decide) (by decide)
          have nB := nB.fr fz (by decide) (by decide)
          have nL := nL.fr fz (by decide) (by decide)
          have nR := nR.fr fz (by decide) (by decide)
          have nP := nP.fr fz (by decide) (by decide)
          have nS := nS.fr fz (by decide) (by decide)
          have nN := nN.fr fz (by decide) (by decide)
          have nD := nD.fr fz (by decide) (by decide)
          have nLo := nLo.fr fz (by decide) (by decide)
          have nUp := nUp.fr fz (by decide) (by decide)
          have hS := hS.fr fz (by decide) (by decide) (by decide)
          have hq := hq.fr fz (by decide)
          exact v_lret dX11_whole_108 trivial (Nat.le_of_ble_eq_true rfl) (Nat.le_of_ble_eq_true rfl) ⟨by rw [hB]; rfl, rfl, by rw [hB]; exact ⟨_, _, _, _, _, _, _, _, _, _, _, _, h_47, h_48, h_49, ⟨nA, nB, nL, nR, nP, nS, nN, nD, nLo, nUp⟩, h_58, ⟨_, _, hS⟩, hq, h_66, ⟨_, h_67, hbb, htx⟩, ⟨_, h_68⟩, ⟨_, h_73⟩⟩, fr⟩
        have eB : mwB (pt a1) (wd a1) = decide (2 ^ 63 ≤ W ∧ ¬ (sv < 0 ∧ W = 2 ^ 63)) := by
          unfold mwB
          rw [decide_eq_false x1, Bool.false_or, ← eW2]
          have i1 : pvI (pt a1) (wd a1) < 0 ∧ W = 9223372036854775808 ↔ sv < 0 ∧ W = 2 ^ 63 := by omega
          simp only [i1]
        have hMM2 : MD G2 wd pt Q qn tf tc L 0 := ⟨_, _, _, _, _, _, _, _, _, _, _, _, h_47, h_48, h_49, ⟨nA, nB, nL, nR, nP, nS, nN, nD, nLo, nUp⟩, h_58, ⟨_, _, hS⟩, hq, h_66, ⟨_, h_67, hbb, htx⟩, ⟨_, h_68⟩, ⟨_, h_73⟩⟩
        have good : mwB (pt a1) (wd a1) = false → (zV X (fun r9 h' n' => r9 = some (.long (jL (cond (mwB (pt a1) (wd a1)) 0 (sgI (pvI (pt a1) (wd a1)) * (mwv 3 (pvI (pt a1) (wd a1)) : Nat))))) ∧ n' = n ∧ MD h' wd pt Q qn tf tc L (cond (mwB (pt a1) (wd a1)) 2 0) ∧ zFr MOL h h') cX11_whole 6 RX11 (some .long) d 0 0 109 [(0, .ref 47), (1, .int (iI (a1:Nat))), (2, .int (iI sv))] [] G2 n 0 0) := by
          intro hB
          have hB2 := of_decide_eq_false (eB.symm.trans hB)
          have hWl : W ≤ 2 ^ 63 := by
            rcases Nat.lt_or_ge W (2 ^ 63) with z | z
            · omega
            · by_cases y : sv < 0 ∧ W = 2 ^ 63
              · omega
              · exact absurd ⟨z, y⟩ hB2
          have loop : ∀ k : Nat, k ≤ u9 → (zV X (fun r9 h' n' => r9 = some (.long (jL (cond (mwB (pt a1) (wd a1)) 0 (sgI (pvI (pt a1) (wd a1)) * (mwv 3 (pvI (pt a1) (wd a1)) : Nat))))) ∧ n' = n ∧ MD h' wd pt Q qn tf tc L (cond (mwB (pt a1) (wd a1)) 2 0) ∧ zFr MOL h h') cX11_whole 6 RX11 (some .long) d 0 0 122 [(0, .ref 47), (2, .int (iI sv)), (3, .long (jL (W / 2 ^ (30 * k):Nat))), (5, .int (iI ((k:Nat) - 1)))] [] G2 n 0 0) := by
            intro k
            induction k with
            | zero =>
              intro hk
              have e0 : W / 2 ^ (30 * 0) = W := by rw [Nat.mul_zero, Nat.pow_zero, Nat.div_one]
              refine v_iload dX11_whole_122 rfl ?_
              refine w_if_lt 150 dX11_whole_124 (by decide) (by omega) (fun g1 => ?_) (fun g1 => ?_)
              · skip
                refine v_iload_n dX11_whole_150 rfl ?_
                refine w_if_ge 159 dX11_whole_151 (by decide) (by omega) (fun g2 => ?_) (fun g2 => ?_)
                · skip
                  refine v_lload_n dX11_whole_159 rfl ?_
                  have eR : sgI (pvI (pt a1) (wd a1)) * (mwv 3 (pvI (pt a1) (wd a1)) : Nat) = (W : Int) := by
                    rw [← eW2, ← es]
                    rcases hsv with ⟨y1, y2⟩ | ⟨y1, y2⟩
                    · rw [y1]; omega
                    · rw [show s = 1 from by omega, Int.one_mul]
                  refine w_el (sgI (pvI (pt a1) (wd a1)) * (mwv 3 (pvI (pt a1) (wd a1)) : Nat)) (by rw [e0, eR]) ?_
                  exact v_lret dX11_whole_160 trivial (Nat.le_of_ble_eq_true rfl) (Nat.le_of_ble_eq_true rfl) ⟨by rw [hB]; rfl, rfl, by rw [hB]; exact hMM2, fr⟩
                · skip
                  refine v_lload_n dX11_whole_154 rfl ?_
                  refine w_lneg dX11_whole_155 ?_
                  refine v_goto 160 dX11_whole_156 (by decide) ?_
                  refine w_el (sgI (pvI (pt a1) (wd a1)) * (mwv 3 (pvI (pt a1) (wd a1)) : Nat)) (by rw [e0, ← eW2, ← es, show s = -1 from by omega]; omega) ?_
                  exact v_lret dX11_whole_160 trivial (Nat.le_of_ble_eq_true rfl) (Nat.le_of_ble_eq_true rfl) ⟨by rw [hB]; rfl, rfl, by rw [hB]; exact hMM2, fr⟩
              · exact absurd g1 (by omega)
            | succ k ih =>
              intro hk
              have hfk := hf9 k
              have eS : W / 2 ^ (30 * (k + 1)) * 1073741824 + f9 k = W / 2 ^ (30 * k) := by
                have z1 := nv_digit hf9 (j := k) (u := u9) (by omega)
                rw [hv9] at z1
                unfold nat at z1
                rw [show 30 * (k + 1) = 30 * k + 30 from by omega, Nat.pow_add, ← Nat.div_div_eq_div_mul]
                omega
              refine v_iload dX11_whole_122 rfl ?_
              refine w_if_lt 150 dX11_whole_124 (by decide) (by omega) (fun g1 => ?_) (fun g1 => ?_)
              · exact absurd g1 (by omega)
              · skip
                refine v_lload_n dX11_whole_127 rfl ?_
                refine v_bipush (iI 30) dX11_whole_128 rfl ?_
                refine w_lshl dX11_whole_130 30 1073741824 rfl rfl (by decide) ?_
                refine v_aload_n dX11_whole_131 rfl ?_
                refine v_get fX11_100 dX11_whole_132 h_47 (by decide) rfl ?_
                refine v_getN fX11_209 dX11_whole_135 h_62 (by decide) rfl ?_
                refine v_iload dX11_whole_138 rfl ?_
                refine w_nald dX11_whole_140 h_63 k (by omega) (by omega) (by decide) ?_
                refine w_i2l dX11_whole_141 (by omega) ?_
                refine w_lor dX11_whole_142 30 1073741824 rfl (by decide) (by omega) (by omega) ?_
                refine w_el (W / 2 ^ (30 * k):Nat) (by rw [← eS]; omega) ?_
                refine v_lstore_n (i := 3) (lv' := [(3, .long (jL (W / 2 ^ (30 * k):Nat))), (0, .ref 47), (2, .int (iI sv)), (5, .int (iI ((k + 1:Nat) - 1)))]) dX11_whole_143 rfl (by decide) rfl ?_
                refine w_iinc (lv' := [(5, .int (iI (((k + 1:Nat) - 1) + (-1)))), (3, .long (jL (W / 2 ^ (30 * k):Nat))), (0, .ref 47), (2, .int (iI sv))]) dX11_whole_144 rfl (by decide) rfl ?_
                refine v_goto 122 dX11_whole_147 (by decide) ?_
                refine w_sub (lv2 := [(0, .ref 47), (2, .int (iI sv)), (3, .long (jL (W / 2 ^ (30 * k):Nat))), (5, .int (iI (((k + 1:Nat) - 1) + (-1))))]) [2, 3, 1, 0] rfl ?_
                rw [show ((k + 1 : Nat) : Int) - 1 + -1 = (k : Nat) - 1 from by omega]
                exact ih (by omega)
          have eU : W / 2 ^ (30 * u9) = 0 := Nat.div_eq_of_lt (by rw [← hv9]; exact nv_lt hf9 u9)
          have l0 := loop u9 (Nat.le_refl _)
          rw [eU] at l0
          refine v_lconst (jL 0) dX11_whole_109 rfl ?_
          refine v_lstore_n (i := 3) (lv' := [(3, .long (jL 0)), (0, .ref 47), (1, .int (iI (a1:Nat))), (2, .int (iI sv))]) dX11_whole_110 rfl (by decide) rfl ?_
          refine v_aload_n dX11_whole_111 rfl ?_
          refine v_get fX11_100 dX11_whole_112 h_47 (by decide) rfl ?_
          refine v_getN fX11_206 dX11_whole_115 h_62 (by decide) rfl ?_
          refine v_iconst (iI 1) dX11_whole_118 rfl ?_
          refine w_isub dX11_whole_119 ?_
          refine v_istore (i := 5) (lv' := [(5, .int (iI ((u9:Nat) - 1))), (3, .long (jL 0)), (0, .ref 47), (1, .int (iI (a1:Nat))), (2, .int (iI sv))]) dX11_whole_120 (by decide) rfl ?_
          refine w_sub (lv2 := [(0, .ref 47), (2, .int (iI sv)), (3, .long (jL 0)), (5, .int (iI ((u9:Nat) - 1)))]) [2, 4, 1, 0] rfl ?_
          exact l0
        refine v_aload_n dX11_whole_51 rfl ?_
        refine v_get fX11_100 dX11_whole_52 h_47 (by decide) rfl ?_
        refine v_cV (av := []) (st := []) zyX9_bits lX11_67 h_62 rfl (p_nbits (d := 6) hP (by decide)) dX11_whole_55 rfl rfl (Nat.le_of_ble_eq_true rfl) (by omega) (Nat.le_of_ble_eq_true rfl) (Nat.le_of_ble_eq_true rfl) (Or.inl (fun _ _ _ q => ZN q)) (fun r9 K3 n9 q9 => ?_)
        obtain ⟨rfl, q9n, q9h⟩ := q9
        have q9n := q9n.symm
        subst q9n
        have q9h := q9h.symm
        subst q9h
        refine v_bipush (iI 64) dX11_whole_58 rfl ?_
        refine w_icmp_gt 102 dX11_whole_60 (by decide) (by omega) (by decide) (fun g1 => ?_) (fun g1 => ?_)
        · exact bad (by rw [eB]; exact decide_eq_true ⟨by omega, fun y => by omega⟩)
        · skip
          refine v_aload_n dX11_whole_63 rfl ?_
          refine v_get fX11_100 dX11_whole_64 h_47 (by decide) rfl ?_
          refine v_cV (av := []) (st := []) zyX9_bits lX11_67 h_62 rfl (p_nbits (d := 6) hP (by decide)) dX11_whole_67 rfl rfl (Nat.le_of_ble_eq_true rfl) (by omega) (Nat.le_of_ble_eq_true rfl) (Nat.le_of_ble_eq_true rfl) (Or.inl (fun _ _ _ q => ZN q)) (fun r9 K4 n9 q9 => ?_)
          obtain ⟨rfl, q9n, q9h⟩ := q9
          have q9n := q9n.symm
          subst q9n
          have q9h := q9h.symm
          subst q9h
          refine v_bipush (iI 64) dX11_whole_70 rfl ?_
          refine w_icmp_ne 109 dX11_whole_72 (by decide) (by omega) (by decide) (fun g2 => ?_) (fun g2 => ?_)
          · exact good (by rw [eB]; exact decide_eq_false (fun y => by omega))
          · skip
            refine v_iload_n dX11_whole_75 rfl ?_
            refine w_if_gt 102 dX11_whole_76 (by decide) (by omega) (fun g3 => ?_) (fun g3 => ?_)
            · exact bad (by rw [eB]; exact decide_eq_true ⟨by omega, fun y => by omega⟩)
            · have hW2 : 2 ^ 63 ≤ W ∧ W < 2 ^ 64 := by omega
              have hbit : W / 2 ^ 63 % 2 = 1 := by omega
              refine v_aload_n dX11_whole_79 rfl ?_
              refine v_get fX11_100 dX11_whole_80 h_47 (by decide) rfl ?_
              refine v_bipush (iI 63) dX11_whole_83 rfl ?_
              refine v_cV (av := [.int (iI 63)]) (st := []) zyX9_bit lX11_199 h_62 rfl (p_nbit (d := 6) (t := 63) hP (by decide)) dX11_whole_85 rfl rfl (Nat.le_of_ble_eq_true rfl) (by omega) (Nat.le_of_ble_eq_true rfl) (Nat.le_of_ble_eq_true rfl) (Or.inl (fun _ _ _ q => ZN q)) (fun r9 K5 n9 q9 => ?_)
              obtain ⟨rfl, q9n, q9h⟩ := q9
              have q9n := q9n.symm
              subst q9n
              have q9h := q9h.symm
              subst q9h
              refine v_iconst (iI 1) dX11_whole_88 rfl ?_
              refine w_icmp_ne 109 dX11_whole_89 (by decide) (by omega) (by decide) (fun g4 => ?_) (fun g4 => ?_)
              · exact absurd g4 (by omega)
              · skip
                refine v_aload_n dX11_whole_92 rfl ?_
                refine v_get fX11_100 dX11_whole_93 h_47 (by decide) rfl ?_
                refine v_cS (av := [.ref 62]) (st := []) zyX11_isPower lX11_202 (p_isPower (d := 6) hP hW2 (by decide)) dX11_whole_96 rfl rfl (Nat.le_of_ble_eq_true rfl) (by omega) (Nat.le_of_ble_eq_true rfl) (Nat.le_of_ble_eq_true rfl) (Or.inl (fun _ _ _ q => ZN q)) (fun r9 K6 n9 q9 => ?_)
                obtain ⟨rfl, q9n, q9h⟩ := q9
                have q9n := q9n.symm
                subst q9n
                have q9h := q9h.symm
                subst q9h
                refine w_ifb_ne 109 dX11_whole_99 (by decide) (fun g5 => ?_) (fun g5 => ?_)
                · have g5 := of_decide_eq_true g5
                  exact good (by rw [eB]; exact decide_eq_false (fun y => by omega))
                · have g5 := of_decide_eq_false g5
                  exact bad (by rw [eB]; exact decide_eq_true ⟨by omega, fun y => by omega⟩)
      · have x1 := of_decide_eq_true x1
        have hB : mwB (pt a1) (wd a1) = true := by unfold mwB; rw [decide_eq_true x1]; rfl
        refine v_aload_n dX11_whole_33 rfl ?_
        refine v_iconst (iI 2) dX11_whole_34 rfl ?_
        refine v_put (fs' := [.int (iI vs), .long (jL vm), .int (iI ve), .ref 48, .ref 49, .int (iI sg), .ref 50, .ref 52, .int (iI e), .int (iI rt), .ref 54, .ref 56, .ref 58, .ref 59, .ref 62, .ref 64, .int (iI 2), .ref 66, .int (iI (tc:Nat)), .ref 67, .int (iI (L.length:Nat)), .int (iI at9), .int (iI sz), .int (iI dg), .int (iI pw), .ref 68, .ref 69, .ref 71, .int (iI tn), .ref 73, .int (iI fm), .ref 74, .ref 76]) fX11_162 dX11_whole_35 h_47 (by decide) (Nat.le_of_ble_eq_true rfl) rfl rfl rfl (fun H2 eH2 => ?_)
        have h_47 : H2 47 = oModel vs vm ve sg e rt 2 (tc:Nat) (L.length:Nat) at9 sz dg pw tn fm := zf_same eH2
        have h_48 := (zf_ne eH2 (by decide)).trans h_48
        have h_49 := (zf_ne eH2 (by decide)).trans h_49
        have fr := fr.put eH2 (by simp)
        refine v_lconst (jL 0) dX11_whole_38 rfl ?_
        have fz : zFr [47] H1 H2 := zFr.put zFr.rf eH2 (by simp)
        have h_58 := (fz 58 (by decide)).trans h_58
        have h_66 := (fz 66 (by decide)).trans h_66
        have h_67 := (fz 67 (by decide)).trans h_67
        have h_68 := (fz 68 (by decide)).trans h_68
        have h_73 := (fz 73 (by decide)).trans h_73
        have nA := nA.fr fz (by decide) (by decide)
        have nB := nB.fr fz (by decide) (by decide)
        have nL := nL.fr fz (by decide) (by decide)
        have nR := nR.fr fz (by decide) (by decide)
        have nP := nP.fr fz (by decide) (by decide)
        have nS := nS.fr fz (by decide) (by decide)
        have nN := nN.fr fz (by decide) (by decide)
        have nD := nD.fr fz (by decide) (by decide)
        have nLo := nLo.fr fz (by decide) (by decide)
        have nUp := nUp.fr fz (by decide) (by decide)
        have hS := hS.fr fz (by decide) (by decide) (by decide)
        have hq := hq.fr fz (by decide)
        exact v_lret dX11_whole_39 trivial (Nat.le_of_ble_eq_true rfl) (Nat.le_of_ble_eq_true rfl) ⟨by rw [hB]; rfl, rfl, by rw [hB]; exact ⟨_, _, _, _, _, _, _, _, _, _, _, _, h_47, h_48, h_49, ⟨nA, nB, nL, nR, nP, nS, nN, nD, nLo, nUp⟩, h_58, ⟨_, _, hS⟩, hq, h_66, ⟨_, h_67, hbb, htx⟩, ⟨_, h_68⟩, ⟨_, h_73⟩⟩, fr⟩
    · exact absurd c2 (by decide)
set_option maxHeartbeats 8000000 in
set_option maxRecDepth 100000 in
theorem p_Mturnx {d n tc : Nat} {wd pt tf : Nat → Nat} {Q : Nat → Int} {qn : Nat → Bool} {L : List Nat} {th r m : Int}  {h : zH} (hM : MD h wd pt Q qn tf tc L th) (hr_r : -2147483648 ≤ r ∧ r < 2147483648) (hr_m : -2147483648 ≤ m ∧ m < 2147483648) (hx : ((isP r) && (decide (0 ≤ m ∧ m ≤ 7))) = false) (hd : 2 ≤ d) :
    zM yX11_turn cX11_turn 6 none d 0 0 [.ref 47, .int (iI r), .int (iI m)] h n (fun r9 h' n' => r9 = none ∧ n' = n ∧ MD h' wd pt Q qn tf tc L (thr (isP r) (decide (0 ≤ m ∧ m ≤ 7))) ∧ zFr MOL h h') := by
  obtain ⟨vs, vm, ve, sg, e, rt, at9, sz, dg, pw, tn, fm, h_47, h_48, h_49, ⟨nA, nB, nL, nR, nP, nS, nN, nD, nLo, nUp⟩, h_58, ⟨Q0, n0, hS⟩, hq, h_66, ⟨tx, h_67, hbb, htx⟩, ⟨fg, h_68⟩, ⟨fw, h_73⟩⟩ := id hM
  refine zM_of zyX11_turn rfl (Nat.le_of_ble_eq_true rfl) (fun X hX => ?_)
  have fr : zFr MOL h h := zFr.rf
  have fin : ∀ b1 b2 : Bool, b1 = (isP r) → b2 = (decide (0 ≤ m ∧ m ≤ 7)) → (zV X (fun r9 h' n' => r9 = none ∧ n' = n ∧ MD h' wd pt Q qn tf tc L (thr (isP r) (decide (0 ≤ m ∧ m ≤ 7))) ∧ zFr MOL h h') cX11_turn 6 RX11 none d 0 0 20 [(0, .ref 47), (1, .int (iI r)), (2, .int (iI m))] [.int (iI (bz b2)), .int (iI (bz b1)), .ref 47] h n 0 0) := by
    intro b1 b2 e1 e2
    rw [← e1, ← e2]
    rw [← e1, ← e2] at hx
    refine v_cV (av := [.int (iI (bz b1)), .int (iI (bz b2))]) (st := []) zyX11_goes lX11_172 h_47 rfl (p_goes (d := 1) h_47) dX11_turn_20 rfl rfl (Nat.le_of_ble_eq_true rfl) (by omega) (Nat.le_of_ble_eq_true rfl) (Nat.le_of_ble_eq_true rfl) (Or.inl (fun _ _ _ q => ZN q)) (fun r9 G1 n9 q9 => ?_)
    obtain ⟨rfl, q9n, h_47, fr9⟩ := q9
    have q9n := q9n.symm
    subst q9n
    have h_48 := (fr9 48 (by decide)).trans h_48
    have h_49 := (fr9 49 (by decide)).trans h_49
    have h_58 := (fr9 58 (by decide)).trans h_58
    have h_66 := (fr9 66 (by decide)).trans h_66
    have h_67 := (fr9 67 (by decide)).trans h_67
    have h_68 := (fr9 68 (by decide)).trans h_68
    have h_73 := (fr9 73 (by decide)).trans h_73
    have nA := nA.fr fr9 (by decide) (by decide)
    have nB := nB.fr fr9 (by decide) (by decide)
    have nL := nL.fr fr9 (by decide) (by decide)
    have nR := nR.fr fr9 (by decide) (by decide)
    have nP := nP.fr fr9 (by decide) (by decide)
    have nS := nS.fr fr9 (by decide) (by decide)
    have nN := nN.fr fr9 (by decide) (by decide)
    have nD := nD.fr fr9 (by decide) (by decide)
    have nLo := nLo.fr fr9 (by decide) (by decide)
    have nUp := nUp.fr fr9 (by decide) (by decide)
    have hS := hS.fr fr9 (by decide) (by decide) (by decide)
    have hq := hq.fr fr9 (by decide)
    have fr := fr.tr fr9 (by decide)
    refine w_ifb_ne 27 dX11_turn_23 (by decide) (fun c1 => ?_) (fun c1 => ?_)
    · rw [hx] at c1; exact absurd c1 (by decide)
    · skip
      exact v_vret dX11_turn_26 trivial (Nat.le_of_ble_eq_true rfl) (Nat.le_of_ble_eq_true rfl) ⟨rfl, rfl, ⟨_, _, _, _, _, _, _, _, _, _, _, _, h_47, h_48, h_49, ⟨nA, nB, nL, nR, nP, nS, nN, nD, nLo, nUp⟩, h_58, ⟨_, _, hS⟩, hq, h_66, ⟨_, h_67, hbb, htx⟩, ⟨_, h_68⟩, ⟨_, h_73⟩⟩, fr⟩
  refine v_aload_n dX11_turn_0 rfl ?_
  refine v_iload_n dX11_turn_1 rfl ?_
  refine v_cS (av := [.int (iI r)]) (st := [.ref 47]) zyX11_isPlace lX11_165 (p_isPlace (d := 1) hr_r) dX11_turn_2 rfl rfl (Nat.le_of_ble_eq_true rfl) (by omega) (Nat.le_of_ble_eq_true rfl) (Nat.le_of_ble_eq_true rfl) (Or.inl (fun _ _ _ q => ZN q)) (fun r9 K1 n9 q9 => ?_)
  obtain ⟨rfl, q9n, q9h⟩ := q9
  have q9n := q9n.symm
  subst q9n
  have q9h := q9h.symm
  subst q9h
  refine w_ei (bz (isP r)) rfl ?_
  refine v_iload_n dX11_turn_5 rfl ?_
  refine w_if_lt 19 dX11_turn_6 (by decide) (by omega) (fun c1 => ?_) (fun c1 => ?_)
  · skip
    refine v_iconst (iI 0) dX11_turn_19 rfl ?_
    refine w_ei (bz false) rfl ?_
    exact fin _ false rfl (decide_eq_false (by omega)).symm
  · skip
    refine v_iload_n dX11_turn_9 rfl ?_
    refine v_bipush (iI 7) dX11_turn_10 rfl ?_
    refine w_icmp_gt 19 dX11_turn_12 (by decide) (by omega) (by decide) (fun c2 => ?_) (fun c2 => ?_)
    · skip
      refine v_iconst (iI 0) dX11_turn_19 rfl ?_
      refine w_ei (bz false) rfl ?_
      exact fin _ false rfl (decide_eq_false (by omega)).symm
    · skip
      refine v_iconst (iI 1) dX11_turn_15 rfl ?_
      refine v_goto 20 dX11_turn_16 (by decide) ?_
      refine w_ei (bz true) rfl ?_
      exact fin _ true rfl (decide_eq_true (by omega)).symm
/-- a pattern turned -/
noncomputable def mtn (w p how : Nat) : Nat := if how = 6 then (p + 1) % 2 ^ w else if how = 7 then (p + (2 ^ w - 1)) % 2 ^ w else if p = 2 ^ (w - 1) then p else if how = 0 then (2 ^ w - p) % 2 ^ w else if how = 1 then (if pvI p w < 0 then 2 ^ w - p else p) else if how = 2 then rdR (sgI (pvI p w)) (CP 1 1 0 1) w else rdR (if mwv how (pvI p w) = 0 then 0 else sgI (pvI p w)) (CP (mwv how (pvI p w)) 1 0 1) w
set_option maxHeartbeats 8000000 in
set_option maxRecDepth 100000 in
theorem p_Mturn {d n tc a1 m : Nat} {wd pt tf : Nat → Nat} {Q : Nat → Int} {qn : Nat → Bool} {L : List Nat} {th : Int} {h : zH} (hM : MD h wd pt Q qn tf tc L th) (hPL : PL wd pt) (h1 : a1 < 32) (hm : m ≤ 7) (hd : 7 ≤ d) :
    zM yX11_turn cX11_turn 6 none d 0 0 [.ref 47, .int (iI (a1:Nat)), .int (iI (m:Nat))] h n (fun r9 h' n' => r9 = none ∧ n' = n ∧ MD h' wd (zup pt a1 (mtn (wd a1) (pt a1) m)) Q qn tf tc L 0 ∧ zFr MOL h h') := by
  obtain ⟨vs, vm, ve, sg, e, rt, at9, sz, dg, pw, tn, fm, h_47, h_48, h_49, ⟨nA, nB, nL, nR, nP, nS, nN, nD, nLo, nUp⟩, h_58, ⟨Q0, n0, hS⟩, hq, h_66, ⟨tx, h_67, hbb, htx⟩, ⟨fg, h_68⟩, ⟨fw, h_73⟩⟩ := id hM
  have w1 := hPL a1 h1
  obtain ⟨q, eq⟩ : ∃ q, 2 ^ (wd a1 - 1) = q := ⟨_, rfl⟩
  have e2 : 2 ^ wd a1 = 2 * q := by rw [← eq, Nat.mul_comm, ← Nat.pow_succ]; congr 1; omega
  have hq2 : q ≤ 2147483648 := by rw [← eq]; exact Nat.pow_le_pow_right (show 0 < 2 by decide) (show wd a1 - 1 ≤ 31 by omega)
  have hq1 : 0 < q := by rw [← eq]; exact p_pos _
  have hpt : pt a1 < 2 * q := by rw [← e2]; exact w1.2.2
  refine zM_of zyX11_turn rfl (Nat.le_of_ble_eq_true rfl) (fun X hX => ?_)
  have fr : zFr MOL h h := zFr.rf
  refine v_aload_n dX11_turn_0 rfl ?_
  refine v_iload_n dX11_turn_1 rfl ?_
  refine v_cS (av := [.int (iI (a1:Nat))]) (st := [.ref 47]) zyX11_isPlace lX11_165 (p_isPlaceT (d := 6) h1) dX11_turn_2 rfl rfl (Nat.le_of_ble_eq_true rfl) (by omega) (Nat.le_of_ble_eq_true rfl) (Nat.le_of_ble_eq_true rfl) (Or.inl (fun _ _ _ q => ZN q)) (fun r9 K1 n9 q9 => ?_)
  obtain ⟨rfl, q9n, q9h⟩ := q9
  have q9n := q9n.symm
  subst q9n
  have q9h := q9h.symm
  subst q9h
  refine v_iload_n dX11_turn_5 rfl ?_
  refine w_if_lt 19 dX11_turn_6 (by decide) (by omega) (fun y1 => ?_) (fun y1 => ?_)
  · exact absurd y1 (by omega)
  · skip
    refine v_iload_n dX11_turn_9 rfl ?_
    refine v_bipush (iI 7) dX11_turn_10 rfl ?_
    refine w_icmp_gt 19 dX11_turn_12 (by decide) (by omega) (by decide) (fun y2 => ?_) (fun y2 => ?_)
    · exact absurd y2 (by omega)
    · skip
      refine v_iconst (iI 1) dX11_turn_15 rfl ?_
      refine v_goto 20 dX11_turn_16 (by decide) ?_
      refine w_ei (bz true) rfl ?_
      refine v_cV (av := [.int (iI (bz true)), .int (iI (bz true))]) (st := []) zyX11_goes lX11_172 h_47 rfl (p_goesT (d := 6) h_47) dX11_turn_20 rfl rfl (Nat.le_of_ble_eq_true rfl) (by omega) (Nat.le_of_ble_eq_true rfl) (Nat.le_of_ble_eq_true rfl) (Or.inl (fun _ _ _ q => ZN q)) (fun r9 G1 n9 q9 => ?_)
      obtain ⟨rfl, q9n, h_47, fr9⟩ := q9
      have q9n := q9n.symm
      subst q9n
      have h_48 := (fr9 48 (by decide)).trans h_48
      have h_49 := (fr9 49 (by decide)).trans h_49
      have h_58 := (fr9 58 (by decide)).trans h_58
      have h_66 := (fr9 66 (by decide)).trans h_66
      have h_67 := (fr9 67 (by decide)).trans h_67
      have h_68 := (fr9 68 (by decide)).trans h_68
      have h_73 := (fr9 73 (by decide)).trans h_73
      have nA := nA.fr fr9 (by decide) (by decide)
      have nB := nB.fr fr9 (by decide) (by decide)
      have nL := nL.fr fr9 (by decide) (by decide)
      have nR := nR.fr fr9 (by decide) (by decide)
      have nP := nP.fr fr9 (by decide) (by decide)
      have nS := nS.fr fr9 (by decide) (by decide)
      have nN := nN.fr fr9 (by decide) (by decide)
      have nD := nD.fr fr9 (by decide) (by decide)
      have nLo := nLo.fr fr9 (by decide) (by decide)
      have nUp := nUp.fr fr9 (by decide) (by decide)
      have hS := hS.fr fr9 (by decide) (by decide) (by decide)
      have hq := hq.fr fr9 (by decide)
      have fr := fr.tr fr9 (by decide)
      refine w_ifb_ne 27 dX11_turn_23 (by decide) (fun c1 => ?_) (fun c1 => ?_)
      · skip
        refine v_lconst (jL 1) dX11_turn_27 rfl ?_
        refine v_aload_n dX11_turn_28 rfl ?_
        refine v_get fX11_24 dX11_turn_29 h_47 (by decide) rfl ?_
        refine v_iload_n dX11_turn_32 rfl ?_
        refine w_nald dX11_turn_33 h_48 a1 (by omega) (by omega) (by decide) ?_
        refine w_lshl dX11_turn_34 (wd a1) (2 ^ (wd a1)) rfl (by omega) (by omega) ?_
        refine w_el (2 * q:Nat) (by rw [ip, e2]) ?_
        refine v_lstore_n (i := 3) (lv' := [(3, .long (jL (2 * q:Nat))), (0, .ref 47), (1, .int (iI (a1:Nat))), (2, .int (iI (m:Nat)))]) dX11_turn_35 rfl (by decide) rfl ?_
        refine w_sub (lv2 := [(0, .ref 47), (1, .int (iI (a1:Nat))), (2, .int (iI (m:Nat))), (3, .long (jL (2 * q:Nat)))]) [1, 2, 3, 0] rfl ?_
        refine v_iload_n dX11_turn_36 rfl ?_
        refine v_iconst (iI 5) dX11_turn_37 rfl ?_
        refine w_icmp_le 70 dX11_turn_38 (by decide) (by omega) (by decide) (fun c2 => ?_) (fun c2 => ?_)
        · skip
          refine v_aload_n dX11_turn_70 rfl ?_
          refine v_iload_n dX11_turn_71 rfl ?_
          refine v_cV (av := [.int (iI (a1:Nat))]) (st := []) zyX11_isNar lX11_176 h_47 rfl (p_misNar (d := 6) h_47 h_48 h_49 hPL h1) dX11_turn_72 rfl rfl (Nat.le_of_ble_eq_true rfl) (by omega) (Nat.le_of_ble_eq_true rfl) (Nat.le_of_ble_eq_true rfl) (Or.inl (fun _ _ _ q => ZN q)) (fun r9 K2 n9 q9 => ?_)
          obtain ⟨rfl, q9n, q9h⟩ := q9
          have q9n := q9n.symm
          subst q9n
          have q9h := q9h.symm
          subst q9h
          refine w_ifb_eq 79 dX11_turn_75 (by decide) (fun x1 => ?_) (fun x1 => ?_)
          · have x1 := of_decide_eq_false x1
            refine v_iload_n dX11_turn_79 rfl ?_
            refine w_if_ne 100 dX11_turn_80 (by decide) (by omega) (fun c3 => ?_) (fun c3 => ?_)
            · skip
              refine v_aload_n dX11_turn_100 rfl ?_
              refine v_iload_n dX11_turn_101 rfl ?_
              refine v_cV (av := [.int (iI (a1:Nat))]) (st := []) zyX11_look lX11_112 h_47 rfl (p_look (d := 6) h_47 h_48 h_49 hPL h1 (by decide)) dX11_turn_102 rfl rfl (Nat.le_of_ble_eq_true rfl) (by omega) (Nat.le_of_ble_eq_true rfl) (Nat.le_of_ble_eq_true rfl) (Or.inl (fun _ _ _ q => ZN q)) (fun r9 G2 n9 q9 => ?_)
              obtain ⟨rfl, q9n, ⟨s, M, E, h_47, hl, hM2, hE1, hE2⟩, fr8⟩ := q9
              have q9n := q9n.symm
              subst q9n
              have h_48 := (fr8 48 (by decide)).trans h_48
              have h_49 := (fr8 49 (by decide)).trans h_49
              have h_58 := (fr8 58 (by decide)).trans h_58
              have h_66 := (fr8 66 (by decide)).trans h_66
              have h_67 := (fr8 67 (by decide)).trans h_67
              have h_68 := (fr8 68 (by decide)).trans h_68
              have h_73 := (fr8 73 (by decide)).trans h_73
              have nA := nA.fr fr8 (by decide) (by decide)
              have nB := nB.fr fr8 (by decide) (by decide)
              have nL := nL.fr fr8 (by decide) (by decide)
              have nR := nR.fr fr8 (by decide) (by decide)
              have nP := nP.fr fr8 (by decide) (by decide)
              have nS := nS.fr fr8 (by decide) (by decide)
              have nN := nN.fr fr8 (by decide) (by decide)
              have nD := nD.fr fr8 (by decide) (by decide)
              have nLo := nLo.fr fr8 (by decide) (by decide)
              have nUp := nUp.fr fr8 (by decide) (by decide)
              have hS := hS.fr fr8 (by decide) (by decide) (by decide)
              have hq := hq.fr fr8 (by decide)
              have fr := fr.tr fr8 (by decide)
              obtain ⟨es, hsz⟩ := lk_sg hl x1
              have hsr := sgI_r (pvI (pt a1) (wd a1))
              have hsc := sgI_c (pvI (pt a1) (wd a1))
              rw [← es] at hsr hsc
              refine v_iload_n dX11_turn_105 rfl ?_
              refine v_iconst (iI 1) dX11_turn_106 rfl ?_
              refine w_icmp_ne 141 dX11_turn_107 (by decide) (by omega) (by decide) (fun c4 => ?_) (fun c4 => ?_)
              · skip
                refine v_aload_n dX11_turn_141 rfl ?_
                refine v_get fX11_17 dX11_turn_142 h_47 (by decide) rfl ?_
                refine v_istore (i := 5) (lv' := [(5, .int (iI s)), (0, .ref 47), (1, .int (iI (a1:Nat))), (2, .int (iI (m:Nat))), (3, .long (jL (2 * q:Nat)))]) dX11_turn_145 (by decide) rfl ?_
                refine v_iload_n dX11_turn_147 rfl ?_
                refine v_iconst (iI 2) dX11_turn_148 rfl ?_
                refine w_icmp_ne 164 dX11_turn_149 (by decide) (by omega) (by decide) (fun c5 => ?_) (fun c5 => ?_)
                · have eT : mtn (wd a1) (pt a1) m = rdR (if mwv m (pvI (pt a1) (wd a1)) = 0 then 0 else sgI (pvI (pt a1) (wd a1))) (CP (mwv m (pvI (pt a1) (wd a1))) 1 0 1) (wd a1) := by
                    unfold mtn
                    rw [if_neg (by omega), if_neg (by omega), if_neg x1, if_neg (by omega), if_neg (by omega), if_neg (by omega)]
                  refine v_aload_n dX11_turn_164 rfl ?_
                  refine v_iload_n dX11_turn_165 rfl ?_
                  refine v_cV (av := [.int (iI (m:Nat))]) (st := []) zyX11_wholeOf lX11_195 h_47 rfl (p_wholeOf (d := 6) (how := m) h_47 nP (by omega) (lk_hl hl x1 hM2) (by decide)) dX11_turn_166 rfl rfl (Nat.le_of_ble_eq_true rfl) (by omega) (Nat.le_of_ble_eq_true rfl) (Nat.le_of_ble_eq_true rfl) (Or.inl (fun _ _ _ q => ZN q)) (fun r9 G3 n9 q9 => ?_)
                  obtain ⟨rfl, q9n, hP, fr7⟩ := q9
                  have q9n := q9n.symm
                  subst q9n
                  obtain ⟨W, eW⟩ : ∃ W, wlv m s M E = W := ⟨_, rfl⟩
                  have eW2 := lk_wl m hl x1
                  rw [eW] at hP eW2
                  obtain ⟨sv, esv⟩ : ∃ sv : Int, (if W = 0 then 0 else s) = sv := ⟨_, rfl⟩
                  refine w_ei sv (by rw [eW, esv]) ?_
                  have hsv : (W = 0 ∧ sv = 0) ∨ (W ≠ 0 ∧ sv = s) := by
                    rw [← esv]
                    by_cases z : W = 0
                    · left; rw [if_pos z]; exact ⟨z, rfl⟩
                    · right; rw [if_neg z]; exact ⟨z, rfl⟩
                  have hWb : nb W ≤ 6000 := by
                    have hl9 := lk_hl hl x1 hM2
                    have : W < 2 ^ 200 := by
                      rw [← eW]
                      unfold wlv
                      have hM3 : M < 2 ^ 32 := hM2
                      by_cases z : 0 ≤ E
                      · rw [if_pos z]
                        have : 2 ^ E.toNat ≤ 2 ^ 120 := Nat.pow_le_pow_right (by decide) (by omega)
                        calc M * 2 ^ E.toNat ≤ M * 2 ^ 120 := Nat.mul_le_mul_left _ this
                          _ < 2 ^ 200 := by omega
                      · rw [if_neg z]
                        have h9 : M / 2 ^ (-E).toNat ≤ M := Nat.div_le_self _ _
                        have h8 : b2n (wup m (decide (0 < s)) M (-E).toNat) ≤ 1 := by
                          cases wup m (decide (0 < s)) M (-E).toNat <;> decide
                        omega
                    have := nb_le this
                    omega
                  have h_47 := (fr7 47 (by decide)).trans h_47
                  have h_48 := (fr7 48 (by decide)).trans h_48
                  have h_49 := (fr7 49 (by decide)).trans h_49
                  have h_58 := (fr7 58 (by decide)).trans h_58
                  have h_66 := (fr7 66 (by decide)).trans h_66
                  have h_67 := (fr7 67 (by decide)).trans h_67
                  have h_68 := (fr7 68 (by decide)).trans h_68
                  have h_73 := (fr7 73 (by decide)).trans h_73
                  have nA := nA.fr fr7 (by decide) (by decide)
                  have nB := nB.fr fr7 (by decide) (by decide)
                  have nL := nL.fr fr7 (by decide) (by decide)
                  have nR := nR.fr fr7 (by decide) (by decide)
                  have nS := nS.fr fr7 (by decide) (by decide)
                  have nN := nN.fr fr7 (by decide) (by decide)
                  have nD := nD.fr fr7 (by decide) (by decide)
                  have nLo := nLo.fr fr7 (by decide) (by decide)
                  have nUp := nUp.fr fr7 (by decide) (by decide)
                  have hS := hS.fr fr7 (by decide) (by decide) (by decide)
                  have hq := hq.fr fr7 (by decide)
                  have fr := fr.tr fr7 (by decide)
                  have nP := hP.ns
                  refine v_istore (i := 5) (lv' := [(5, .int (iI sv)), (0, .ref 47), (1, .int (iI (a1:Nat))), (2, .int (iI (m:Nat))), (3, .long (jL (2 * q:Nat)))]) dX11_turn_169 (by decide) rfl ?_
                  refine w_sub (lv2 := [(0, .ref 47), (1, .int (iI (a1:Nat))), (2, .int (iI (m:Nat))), (3, .long (jL (2 * q:Nat))), (5, .int (iI sv))]) [1, 2, 3, 4, 0] rfl ?_
                  refine v_aload_n dX11_turn_171 rfl ?_
                  refine v_iload dX11_turn_172 rfl ?_
                  refine v_cV (av := [.int (iI sv)]) (st := []) zyX11_begin lX11_119 h_47 rfl (p_begin (d := 6) h_47 nA nB (by decide)) dX11_turn_174 rfl rfl (Nat.le_of_ble_eq_true rfl) (by omega) (Nat.le_of_ble_eq_true rfl) (Nat.le_of_ble_eq_true rfl) (Or.inl (fun _ _ _ q => ZN q)) (fun r9 G4 n9 q9 => ?_)
                  obtain ⟨rfl, q9n, h_47, hA, hB, fr6⟩ := q9
                  have q9n := q9n.symm
                  subst q9n
                  have nA := hA.ns
                  have nB := hB.ns
                  have hP := hP.fr fr6 (by decide) (by decide)
                  have h_48 := (fr6 48 (by decide)).trans h_48
                  have h_49 := (fr6 49 (by decide)).trans h_49
                  have h_58 := (fr6 58 (by decide)).trans h_58
                  have h_66 := (fr6 66 (by decide)).trans h_66
                  have h_67 := (fr6 67 (by decide)).trans h_67
                  have h_68 := (fr6 68 (by decide)).trans h_68
                  have h_73 := (fr6 73 (by decide)).trans h_73
                  have nL := nL.fr fr6 (by decide) (by decide)
                  have nR := nR.fr fr6 (by decide) (by decide)
                  have nP := nP.fr fr6 (by decide) (by decide)
                  have nS := nS.fr fr6 (by decide) (by decide)
                  have nN := nN.fr fr6 (by decide) (by decide)
                  have nD := nD.fr fr6 (by decide) (by decide)
                  have nLo := nLo.fr fr6 (by decide) (by decide)
                  have nUp := nUp.fr fr6 (by decide) (by decide)
                  have hS := hS.fr fr6 (by decide) (by decide) (by decide)
                  have hq := hq.fr fr6 (by decide)
                  have fr := fr.tr fr6 (by decide)
                  obtain ⟨_, _, h_50, -⟩ := id hA
                  refine v_aload_n dX11_turn_177 rfl ?_
                  refine v_get fX11_35 dX11_turn_178 h_47 (by decide) rfl ?_
                  refine v_aload_n dX11_turn_181 rfl ?_
                  refine v_get fX11_100 dX11_turn_182 h_47 (by decide) rfl ?_
                  refine v_cV (av := [.ref 62]) (st := []) zyX9_copy lX11_57 h_50 rfl (p_ncopy (d := 6) hA.ns hP (by decide)) dX11_turn_185 rfl rfl (Nat.le_of_ble_eq_true rfl) (by omega) (Nat.le_of_ble_eq_true rfl) (Nat.le_of_ble_eq_true rfl) (Or.inl (fun _ _ _ q => ZN q)) (fun r9 G5 n9 q9 => ?_)
                  obtain ⟨rfl, q9n, hA, fr5⟩ := q9
                  have q9n := q9n.symm
                  subst q9n
                  have nA := hA.ns
                  have hB := hB.fr fr5 (by decide) (by decide)
                  have hP := hP.fr fr5 (by decide) (by decide)
                  have h_47 := (fr5 47 (by decide)).trans h_47
                  have h_48 := (fr5 48 (by decide)).trans h_48
                  have h_49 := (fr5 49 (by decide)).trans h_49
                  have h_58 := (fr5 58 (by decide)).trans h_58
                  have h_66 := (fr5 66 (by decide)).trans h_66
                  have h_67 := (fr5 67 (by decide)).trans h_67
                  have h_68 := (fr5 68 (by decide)).trans h_68
                  have h_73 := (fr5 73 (by decide)).trans h_73
                  have nB := nB.fr fr5 (by decide) (by decide)
                  have nL := nL.fr fr5 (by decide) (by decide)
                  have nR := nR.fr fr5 (by decide) (by decide)
                  have nP := nP.fr fr5 (by decide) (by decide)
                  have nS := nS.fr fr5 (by decide) (by decide)
                  have nN := nN.fr fr5 (by decide) (by decide)
                  have nD := nD.fr fr5 (by decide) (by decide)
                  have nLo := nLo.fr fr5 (by decide) (by decide)
                  have nUp := nUp.fr fr5 (by decide) (by decide)
                  have hS := hS.fr fr5 (by decide) (by decide) (by decide)
                  have hq := hq.fr fr5 (by decide)
                  have fr := fr.tr fr5 (by decide)
                  refine v_aload_n dX11_turn_188 rfl ?_
                  refine v_iload_n dX11_turn_189 rfl ?_
                  refine v_cV (av := [.int (iI (a1:Nat))]) (st := []) zyX11_become lX11_185 h_47 rfl (p_become (d := 6) (rt := 1) h_47 h_48 h_49 hA hB nL nR (by omega) (fun z => by omega) hWb (by decide) (by decide) (by decide) (by decide) h1 ⟨w1.1, w1.2.1⟩ (by decide)) dX11_turn_190 rfl rfl (Nat.le_of_ble_eq_true rfl) (by omega) (Nat.le_of_ble_eq_true rfl) (Nat.le_of_ble_eq_true rfl) (Or.inl (fun _ _ _ q => ZN q)) (fun r9 G6 n9 q9 => ?_)
                  obtain ⟨rfl, q9n, ⟨v7, v8, v9, h_47⟩, h_49, nL, nR, fr4⟩ := q9
                  have q9n := q9n.symm
                  subst q9n
                  have h_48 := (fr4 48 (by decide)).trans h_48
                  have h_58 := (fr4 58 (by decide)).trans h_58
                  have h_66 := (fr4 66 (by decide)).trans h_66
                  have h_67 := (fr4 67 (by decide)).trans h_67
                  have h_68 := (fr4 68 (by decide)).trans h_68
                  have h_73 := (fr4 73 (by decide)).trans h_73
                  have nA := nA.fr fr4 (by decide) (by decide)
                  have nB := nB.fr fr4 (by decide) (by decide)
                  have nP := nP.fr fr4 (by decide) (by decide)
                  have nS := nS.fr fr4 (by decide) (by decide)
                  have nN := nN.fr fr4 (by decide) (by decide)
                  have nD := nD.fr fr4 (by decide) (by decide)
                  have nLo := nLo.fr fr4 (by decide) (by decide)
                  have nUp := nUp.fr fr4 (by decide) (by decide)
                  have hS := hS.fr fr4 (by decide) (by decide) (by decide)
                  have hq := hq.fr fr4 (by decide)
                  have fr := fr.tr fr4 (by decide)
                  rw [← esv, eW2, es, ← eT] at h_49
                  have h_47 : G6 47 = oModel v7 v8 v9 sv 0 (1:Nat) 0 (tc:Nat) (L.length:Nat) at9 sz dg pw tn fm := h_47
                  exact v_vret dX11_turn_193 trivial (Nat.le_of_ble_eq_true rfl) (Nat.le_of_ble_eq_true rfl) ⟨rfl, rfl, ⟨_, _, _, _, _, _, _, _, _, _, _, _, h_47, h_48, h_49, ⟨nA, nB, nL, nR, nP, nS, nN, nD, nLo, nUp⟩, h_58, ⟨_, _, hS⟩, hq, h_66, ⟨_, h_67, hbb, htx⟩, ⟨_, h_68⟩, ⟨_, h_73⟩⟩, fr⟩
                · have eT : mtn (wd a1) (pt a1) m = rdR (sgI (pvI (pt a1) (wd a1))) (CP 1 1 0 1) (wd a1) := by
                    unfold mtn
                    rw [if_neg (by omega), if_neg (by omega), if_neg x1, if_neg (by omega), if_neg (by omega), if_pos (by omega)]
                  refine v_aload_n dX11_turn_152 rfl ?_
                  refine v_iload dX11_turn_153 rfl ?_
                  refine v_cV (av := [.int (iI s)]) (st := []) zyX11_begin lX11_119 h_47 rfl (p_begin (d := 6) h_47 nA nB (by decide)) dX11_turn_155 rfl rfl (Nat.le_of_ble_eq_true rfl) (by omega) (Nat.le_of_ble_eq_true rfl) (Nat.le_of_ble_eq_true rfl) (Or.inl (fun _ _ _ q => ZN q)) (fun r9 G4 n9 q9 => ?_)
                  obtain ⟨rfl, q9n, h_47, hA, hB, fr6⟩ := q9
                  have q9n := q9n.symm
                  subst q9n
                  have nA := hA.ns
                  have nB := hB.ns
                  have h_48 := (fr6 48 (by decide)).trans h_48
                  have h_49 := (fr6 49 (by decide)).trans h_49
                  have h_58 := (fr6 58 (by decide)).trans h_58
                  have h_66 := (fr6 66 (by decide)).trans h_66
                  have h_67 := (fr6 67 (by decide)).trans h_67
                  have h_68 := (fr6 68 (by decide)).trans h_68
                  have h_73 := (fr6 73 (by decide)).trans h_73
                  have nL := nL.fr fr6 (by decide) (by decide)
                  have nR := nR.fr fr6 (by decide) (by decide)
                  have nP := nP.fr fr6 (by decide) (by decide)
                  have nS := nS.fr fr6 (by decide) (by decide)
                  have nN := nN.fr fr6 (by decide) (by decide)
                  have nD := nD.fr fr6 (by decide) (by decide)
                  have nLo := nLo.fr fr6 (by decide) (by decide)
                  have nUp := nUp.fr fr6 (by decide) (by decide)
                  have hS := hS.fr fr6 (by decide) (by decide) (by decide)
                  have hq := hq.fr fr6 (by decide)
                  have fr := fr.tr fr6 (by decide)
                  refine v_aload_n dX11_turn_158 rfl ?_
                  refine v_iload_n dX11_turn_159 rfl ?_
                  refine v_cV (av := [.int (iI (a1:Nat))]) (st := []) zyX11_become lX11_185 h_47 rfl (p_become (d := 6) (rt := 1) h_47 h_48 h_49 hA hB nL nR (by omega) (fun z => by decide) (by decide) (by decide) (by decide) (by decide) (by decide) h1 ⟨w1.1, w1.2.1⟩ (by decide)) dX11_turn_160 rfl rfl (Nat.le_of_ble_eq_true rfl) (by omega) (Nat.le_of_ble_eq_true rfl) (Nat.le_of_ble_eq_true rfl) (Or.inl (fun _ _ _ q => ZN q)) (fun r9 G6 n9 q9 => ?_)
                  obtain ⟨rfl, q9n, ⟨v7, v8, v9, h_47⟩, h_49, nL, nR, fr4⟩ := q9
                  have q9n := q9n.symm
                  subst q9n
                  have h_48 := (fr4 48 (by decide)).trans h_48
                  have h_58 := (fr4 58 (by decide)).trans h_58
                  have h_66 := (fr4 66 (by decide)).trans h_66
                  have h_67 := (fr4 67 (by decide)).trans h_67
                  have h_68 := (fr4 68 (by decide)).trans h_68
                  have h_73 := (fr4 73 (by decide)).trans h_73
                  have nA := nA.fr fr4 (by decide) (by decide)
                  have nB := nB.fr fr4 (by decide) (by decide)
                  have nP := nP.fr fr4 (by decide) (by decide)
                  have nS := nS.fr fr4 (by decide) (by decide)
                  have nN := nN.fr fr4 (by decide) (by decide)
                  have nD := nD.fr fr4 (by decide) (by decide)
                  have nLo := nLo.fr fr4 (by decide) (by decide)
                  have nUp := nUp.fr fr4 (by decide) (by decide)
                  have hS := hS.fr fr4 (by decide) (by decide) (by decide)
                  have hq := hq.fr fr4 (by decide)
                  have fr := fr.tr fr4 (by decide)
                  rw [es, ← eT] at h_49
                  have h_47 : G6 47 = oModel v7 v8 v9 s 0 (1:Nat) 0 (tc:Nat) (L.length:Nat) at9 sz dg pw tn fm := h_47
                  exact v_vret dX11_turn_163 trivial (Nat.le_of_ble_eq_true rfl) (Nat.le_of_ble_eq_true rfl) ⟨rfl, rfl, ⟨_, _, _, _, _, _, _, _, _, _, _, _, h_47, h_48, h_49, ⟨nA, nB, nL, nR, nP, nS, nN, nD, nLo, nUp⟩, h_58, ⟨_, _, hS⟩, hq, h_66, ⟨_, h_67, hbb, htx⟩, ⟨_, h_68⟩, ⟨_, h_73⟩⟩, fr⟩
              · have eT : mtn (wd a1) (pt a1) m = if pvI (pt a1) (wd a1) < 0 then 2 ^ wd a1 - pt a1 else pt a1 := by
                  unfold mtn
                  rw [if_neg (by omega), if_neg (by omega), if_neg x1, if_neg (by omega), if_pos (by omega)]
                refine v_aload_n dX11_turn_110 rfl ?_
                refine v_get fX11_20 dX11_turn_111 h_47 (by decide) rfl ?_
                refine v_iload_n dX11_turn_114 rfl ?_
                refine v_aload_n dX11_turn_115 rfl ?_
                refine v_get fX11_17 dX11_turn_116 h_47 (by decide) rfl ?_
                refine w_if_ge 133 dX11_turn_119 (by decide) (by omega) (fun c5 => ?_) (fun c5 => ?_)
                · rw [if_neg (by omega)] at eT
                  refine v_aload_n dX11_turn_133 rfl ?_
                  refine v_get fX11_20 dX11_turn_134 h_47 (by decide) rfl ?_
                  refine v_iload_n dX11_turn_137 rfl ?_
                  refine w_mald dX11_turn_138 h_49 a1 (by omega) (by omega) (by decide) ?_
                  refine w_mast dX11_turn_139 h_49 a1 (by omega) (by omega) (by decide) (pt a1) (by omega) (fun H1 eH1 => ?_)
                  obtain ⟨F1, eF1⟩ : ∃ zz9, zz9 = zup pt a1 (pt a1) := ⟨_, rfl⟩
                  rw [← eF1] at eH1
                  have h_49 : H1 49 = aM 32 F1 := zf_same eH1
                  have h_47 := (zf_ne eH1 (by decide)).trans h_47
                  have h_48 := (zf_ne eH1 (by decide)).trans h_48
                  have fr := fr.put eH1 (by simp)
                  have fz : zFr [49] G2 H1 := zFr.put zFr.rf eH1 (by simp)
                  have h_58 := (fz 58 (by decide)).trans h_58
                  have h_66 := (fz 66 (by decide)).trans h_66
                  have h_67 := (fz 67 (by decide)).trans h_67
                  have h_68 := (fz 68 (by decide)).trans h_68
                  have h_73 := (fz 73 (by decide)).trans h_73
                  have nA := nA.fr fz (by decide) (by decide)
                  have nB := nB.fr fz (by decide) (by decide)
                  have nL := nL.fr fz (by decide) (by decide)
                  have nR := nR.fr fz (by decide) (by decide)
                  have nP := nP.fr fz (by decide) (by decide)
                  have nS := nS.fr fz (by decide) (by decide)
                  have nN := nN.fr fz (by decide) (by decide)
                  have nD := nD.fr fz (by decide) (by decide)
                  have nLo := nLo.fr fz (by decide) (by decide)
                  have nUp := nUp.fr fz (by decide) (by decide)
                  have hS := hS.fr fz (by decide) (by decide) (by decide)
                  have hq := hq.fr fz (by decide)
                  rw [eF1, ← eT] at h_49
                  exact v_vret dX11_turn_140 trivial (Nat.le_of_ble_eq_true rfl) (Nat.le_of_ble_eq_true rfl) ⟨rfl, rfl, ⟨_, _, _, _, _, _, _, _, _, _, _, _, h_47, h_48, h_49, ⟨nA, nB, nL, nR, nP, nS, nN, nD, nLo, nUp⟩, h_58, ⟨_, _, hS⟩, hq, h_66, ⟨_, h_67, hbb, htx⟩, ⟨_, h_68⟩, ⟨_, h_73⟩⟩, fr⟩
                · rw [if_pos (by omega), e2] at eT
                  refine v_lload_n dX11_turn_122 rfl ?_
                  refine v_aload_n dX11_turn_123 rfl ?_
                  refine v_get fX11_20 dX11_turn_124 h_47 (by decide) rfl ?_
                  refine v_iload_n dX11_turn_127 rfl ?_
                  refine w_mald dX11_turn_128 h_49 a1 (by omega) (by omega) (by decide) ?_
                  refine w_lsub dX11_turn_129 ?_
                  refine v_goto 139 dX11_turn_130 (by decide) ?_
                  refine w_mast dX11_turn_139 h_49 a1 (by omega) (by omega) (by decide) (2 * q - pt a1) (by omega) (fun H1 eH1 => ?_)
                  obtain ⟨F1, eF1⟩ : ∃ zz9, zz9 = zup pt a1 (2 * q - pt a1) := ⟨_, rfl⟩
                  rw [← eF1] at eH1
                  have h_49 : H1 49 = aM 32 F1 := zf_same eH1
                  have h_47 := (zf_ne eH1 (by decide)).trans h_47
                  have h_48 := (zf_ne eH1 (by decide)).trans h_48
                  have fr := fr.put eH1 (by simp)
                  have fz : zFr [49] G2 H1 := zFr.put zFr.rf eH1 (by simp)
                  have h_58 := (fz 58 (by decide)).trans h_58
                  have h_66 := (fz 66 (by decide)).trans h_66
                  have h_67 := (fz 67 (by decide)).trans h_67
                  have h_68 := (fz 68 (by decide)).trans h_68
                  have h_73 := (fz 73 (by decide)).trans h_73
                  have nA := nA.fr fz (by decide) (by decide)
                  have nB := nB.fr fz (by decide) (by decide)
                  have nL := nL.fr fz (by decide) (by decide)
                  have nR := nR.fr fz (by decide) (by decide)
                  have nP := nP.fr fz (by decide) (by decide)
                  have nS := nS.fr fz (by decide) (by decide)
                  have nN := nN.fr fz (by decide) (by decide)
                  have nD := nD.fr fz (by decide) (by decide)
                  have nLo := nLo.fr fz (by decide) (by decide)
                  have nUp := nUp.fr fz (by decide) (by decide)
                  have hS := hS.fr fz (by decide) (by decide) (by decide)
                  have hq := hq.fr fz (by decide)
                  rw [eF1, ← eT] at h_49
                  exact v_vret dX11_turn_140 trivial (Nat.le_of_ble_eq_true rfl) (Nat.le_of_ble_eq_true rfl) ⟨rfl, rfl, ⟨_, _, _, _, _, _, _, _, _, _, _, _, h_47, h_48, h_49, ⟨nA, nB, nL, nR, nP, nS, nN, nD, nLo, nUp⟩, h_58, ⟨_, _, hS⟩, hq, h_66, ⟨_, h_67, hbb, htx⟩, ⟨_, h_68⟩, ⟨_, h_73⟩⟩, fr⟩
            · have eT : mtn (wd a1) (pt a1) m = (2 * q - pt a1) % (2 * q) := by
                unfold mtn
                rw [if_neg (by omega), if_neg (by omega), if_neg x1, if_pos (by omega), e2]
              refine v_aload_n dX11_turn_83 rfl ?_
              refine v_get fX11_20 dX11_turn_84 h_47 (by decide) rfl ?_
              refine v_iload_n dX11_turn_87 rfl ?_
              refine v_lload_n dX11_turn_88 rfl ?_
              refine v_aload_n dX11_turn_89 rfl ?_
              refine v_get fX11_20 dX11_turn_90 h_47 (by decide) rfl ?_
              refine v_iload_n dX11_turn_93 rfl ?_
              refine w_mald dX11_turn_94 h_49 a1 (by omega) (by omega) (by decide) ?_
              refine w_lsub dX11_turn_95 ?_
              refine w_el (2 * q - pt a1:Nat) (by omega) ?_
              refine v_lload_n dX11_turn_96 rfl ?_
              refine w_lremn dX11_turn_97 (by omega) (by omega) ?_
              refine w_el ((2 * q - pt a1) % (2 * q):Nat) (by rw [Int.natCast_emod]) ?_
              refine w_mast dX11_turn_98 h_49 a1 (by omega) (by omega) (by decide) ((2 * q - pt a1) % (2 * q)) (by omega) (fun H1 eH1 => ?_)
              obtain ⟨F1, eF1⟩ : ∃ zz9, zz9 = zup pt a1 ((2 * q - pt a1) % (2 * q)) := ⟨_, rfl⟩
              rw [← eF1] at eH1
              have h_49 : H1 49 = aM 32 F1 := zf_same eH1
              have h_47 := (zf_ne eH1 (by decide)).trans h_47
              have h_48 := (zf_ne eH1 (by decide)).trans h_48
              have fr := fr.put eH1 (by simp)
              have fz : zFr [49] G1 H1 := zFr.put zFr.rf eH1 (by simp)
              have h_58 := (fz 58 (by decide)).trans h_58
              have h_66 := (fz 66 (by decide)).trans h_66
              have h_67 := (fz 67 (by decide)).trans h_67
              have h_68 := (fz 68 (by decide)).trans h_68
              have h_73 := (fz 73 (by decide)).trans h_73
              have nA := nA.fr fz (by decide) (by decide)
              have nB := nB.fr fz (by decide) (by decide)
              have nL := nL.fr fz (by decide) (by decide)
              have nR := nR.fr fz (by decide) (by decide)
              have nP := nP.fr fz (by decide) (by decide)
              have nS := nS.fr fz (by decide) (by decide)
              have nN := nN.fr fz (by decide) (by decide)
              have nD := nD.fr fz (by decide) (by decide)
              have nLo := nLo.fr fz (by decide) (by decide)
              have nUp := nUp.fr fz (by decide) (by decide)
              have hS := hS.fr fz (by decide) (by decide) (by decide)
              have hq := hq.fr fz (by decide)
              rw [eF1, ← eT] at h_49
              exact v_vret dX11_turn_99 trivial (Nat.le_of_ble_eq_true rfl) (Nat.le_of_ble_eq_true rfl) ⟨rfl, rfl, ⟨_, _, _, _, _, _, _, _, _, _, _, _, h_47, h_48, h_49, ⟨nA, nB, nL, nR, nP, nS, nN, nD, nLo, nUp⟩, h_58, ⟨_, _, hS⟩, hq, h_66, ⟨_, h_67, hbb, htx⟩, ⟨_, h_68⟩, ⟨_, h_73⟩⟩, fr⟩
          · have x1 := of_decide_eq_true x1
            have eT : mtn (wd a1) (pt a1) m = pt a1 := by
              unfold mtn
              rw [if_neg (by omega), if_neg (by omega), if_pos x1]
            exact v_vret dX11_turn_78 trivial (Nat.le_of_ble_eq_true rfl) (Nat.le_of_ble_eq_true rfl) ⟨rfl, rfl, by rw [eT, zup_id]; exact ⟨_, _, _, _, _, _, _, _, _, _, _, _, h_47, h_48, h_49, ⟨nA, nB, nL, nR, nP, nS, nN, nD, nLo, nUp⟩, h_58, ⟨_, _, hS⟩, hq, h_66, ⟨_, h_67, hbb, htx⟩, ⟨_, h_68⟩, ⟨_, h_73⟩⟩, fr⟩
        · have fin : ∀ z : Nat, z = (if m = 6 then 1 else 2 * q - 1) → (zV X (fun r9 h' n' => r9 = none ∧ n' = n ∧ MD h' wd (zup pt a1 (mtn (wd a1) (pt a1) m)) Q qn tf tc L 0 ∧ zFr MOL h h') cX11_turn 6 RX11 none d 0 0 65 [(0, .ref 47), (1, .int (iI (a1:Nat))), (2, .int (iI (m:Nat))), (3, .long (jL (2 * q:Nat)))] [.long (jL (z:Nat)), .long (jL (pt a1:Nat)), .int (iI (a1:Nat)), .ref 49] G1 n 0 0) := by
            intro z ez
            have hz : z < 2 * q := by
              rw [ez]; split <;> omega
            have eT : mtn (wd a1) (pt a1) m = (pt a1 + z) % (2 * q) := by
              unfold mtn
              by_cases y : m = 6
              · rw [if_pos y, e2, ez, if_pos y]
              · rw [if_neg y, if_pos (by omega), e2, ez, if_neg y]
            refine w_ladd dX11_turn_65 ?_
            refine w_el (pt a1 + z:Nat) (by omega) ?_
            refine v_lload_n dX11_turn_66 rfl ?_
            refine w_lremn dX11_turn_67 (by omega) (by omega) ?_
            refine w_el ((pt a1 + z) % (2 * q):Nat) (by rw [Int.natCast_emod]) ?_
            refine w_mast dX11_turn_68 h_49 a1 (by omega) (by omega) (by decide) ((pt a1 + z) % (2 * q)) (by omega) (fun H1 eH1 => ?_)
            obtain ⟨F1, eF1⟩ : ∃ zz9, zz9 = zup pt a1 ((pt a1 + z) % (2 * q)) := ⟨_, rfl⟩
            rw [← eF1] at eH1
            have h_49 : H1 49 = aM 32 F1 := zf_same eH1
            have h_47 := (zf_ne eH1 (by decide)).trans h_47
            have h_48 := (zf_ne eH1 (by decide)).trans h_48
            have fr := fr.put eH1 (by simp)
            have fz : zFr [49] G1 H1 := zFr.put zFr.rf eH1 (by simp)
            have h_58 := (fz 58 (by decide)).trans h_58
            have h_66 := (fz 66 (by decide)).trans h_66
            have h_67 := (fz 67 (by decide)).trans h_67
            have h_68 := (fz 68 (by decide)).trans h_68
            have h_73 := (fz 73 (by decide)).trans h_73
            have nA := nA.fr fz (by decide) (by decide)
            have nB := nB.fr fz (by decide) (by decide)
            have nL := nL.fr fz (by decide) (by decide)
            have nR := nR.fr fz (by decide) (by decide)
            have nP := nP.fr fz (by decide) (by decide)
            have nS := nS.fr fz (by decide) (by decide)
            have nN := nN.fr fz (by decide) (by decide)
            have nD := nD.fr fz (by decide) (by decide)
            have nLo := nLo.fr fz (by decide) (by decide)
            have nUp := nUp.fr fz (by decide) (by decide)
            have hS := hS.fr fz (by decide) (by decide) (by decide)
            have hq := hq.fr fz (by decide)
            rw [eF1, ← eT] at h_49
            exact v_vret dX11_turn_69 trivial (Nat.le_of_ble_eq_true rfl) (Nat.le_of_ble_eq_true rfl) ⟨rfl, rfl, ⟨_, _, _, _, _, _, _, _, _, _, _, _, h_47, h_48, h_49, ⟨nA, nB, nL, nR, nP, nS, nN, nD, nLo, nUp⟩, h_58, ⟨_, _, hS⟩, hq, h_66, ⟨_, h_67, hbb, htx⟩, ⟨_, h_68⟩, ⟨_, h_73⟩⟩, fr⟩
          refine v_aload_n dX11_turn_41 rfl ?_
          refine v_get fX11_20 dX11_turn_42 h_47 (by decide) rfl ?_
          refine v_iload_n dX11_turn_45 rfl ?_
          refine v_aload_n dX11_turn_46 rfl ?_
          refine v_get fX11_20 dX11_turn_47 h_47 (by decide) rfl ?_
          refine v_iload_n dX11_turn_50 rfl ?_
          refine w_mald dX11_turn_51 h_49 a1 (by omega) (by omega) (by decide) ?_
          refine v_iload_n dX11_turn_52 rfl ?_
          refine v_bipush (iI 6) dX11_turn_53 rfl ?_
          refine w_icmp_ne 62 dX11_turn_55 (by decide) (by omega) (by decide) (fun c3 => ?_) (fun c3 => ?_)
          · skip
            refine v_lload_n dX11_turn_62 rfl ?_
            refine v_lconst (jL 1) dX11_turn_63 rfl ?_
            refine w_lsub dX11_turn_64 ?_
            refine w_el (2 * q - 1:Nat) (by omega) ?_
            exact fin _ (by rw [if_neg (by omega)])
          · skip
            refine v_lconst (jL 1) dX11_turn_58 rfl ?_
            refine v_goto 65 dX11_turn_59 (by decide) ?_
            exact fin 1 (by rw [if_pos (by omega)])
      · exact absurd c1 (by decide)
