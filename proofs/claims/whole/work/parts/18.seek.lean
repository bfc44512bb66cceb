/-! The seeker -/
abbrev oSeeker (f b t : Nat) (mo : Bool) : zC := .inr (4, [.ref f, .ref b, .ref t, .int (iI (bz mo))])
/-- the bits of the seeked number from bit t - 1 on -/
def skf (F B k : Nat) : Nat → Nat → Nat
  | 0, fd => fd
  | t + 1, fd => if F * (fd + 2 ^ t) ^ k ≤ B then skf F B k t (fd + 2 ^ t) else skf F B k t fd
theorem skf_spec {F B k : Nat} : ∀ (t fd : Nat), F * fd ^ k ≤ B → B < F * (fd + 2 ^ t) ^ k → F * (skf F B k t fd) ^ k ≤ B ∧ B < F * (skf F B k t fd + 1) ^ k ∧ fd ≤ skf F B k t fd ∧ skf F B k t fd < fd + 2 ^ t
  | 0, fd, h1, h2 => ⟨h1, h2, Nat.le_refl _, Nat.lt_succ_self _⟩
  | t + 1, fd, h1, h2 => by
    have e : fd + 2 ^ (t + 1) = fd + 2 ^ t + 2 ^ t := by rw [Nat.pow_succ]; omega
    have hp := p_pos t
    show F * (if F * (fd + 2 ^ t) ^ k ≤ B then skf F B k t (fd + 2 ^ t) else skf F B k t fd) ^ k ≤ B ∧ B < F * ((if F * (fd + 2 ^ t) ^ k ≤ B then skf F B k t (fd + 2 ^ t) else skf F B k t fd) + 1) ^ k ∧ fd ≤ (if F * (fd + 2 ^ t) ^ k ≤ B then skf F B k t (fd + 2 ^ t) else skf F B k t fd) ∧ (if F * (fd + 2 ^ t) ^ k ≤ B then skf F B k t (fd + 2 ^ t) else skf F B k t fd) < fd + 2 ^ (t + 1)
    by_cases q : F * (fd + 2 ^ t) ^ k ≤ B
    · rw [if_pos q]
      obtain ⟨a1, a2, a3, a4⟩ := skf_spec t (fd + 2 ^ t) q (by rw [← e]; exact h2)
      exact ⟨a1, a2, by omega, by omega⟩
    · rw [if_neg q]
      obtain ⟨a1, a2, a3, a4⟩ := skf_spec t fd h1 (by omega)
      exact ⟨a1, a2, by omega, by omega⟩
/-- the seeker's cells, with a factor F and a bound B -/
def SK (h : zH) (F B : Nat) (mo : Bool) : Prop := h 23 = oSeeker 24 26 28 mo ∧ WD h 24 25 F ∧ WD h 26 27 B ∧ ∃ t, WD h 28 29 t
set_option maxHeartbeats 4000000 in
set_option maxRecDepth 100000 in
theorem p_seek {d n F B k : Nat} {mo : Bool} {h : zH} (hs : SK h F B mo) (hd : 3 ≤ d) (hk : 1 ≤ k ∧ k ≤ 8) (hF : F * (2 ^ 32) ^ k ≤ 2 ^ 512) :
    zM yX5_seek cX5_seek 8 (some .long) d 0 0 [.ref 23, .int (iI (k:Nat))] h n (fun r h' n' => r = some (.long (jL (skf F B k 32 0 : Nat))) ∧ n' = n ∧ SK h' F B (decide (skf F B k 32 0 = 0 ∨ F * (skf F B k 32 0) ^ k < B)) ∧ zFr [23, 28, 29] h h') := by
  obtain ⟨h_23, hwF, hwB, t0, hwT⟩ := hs
  refine zM_of zyX5_seek rfl (Nat.le_of_ble_eq_true rfl) (fun X hX => ?_)
  have fr : zFr [23, 28, 29] h h := zFr.rf
  refine v_lconst (jL 0) dX5_seek_0 rfl ?_
  refine v_lstore_n (i := 2) (lv' := [(2, .long (jL 0)), (0, .ref 23), (1, .int (iI (k:Nat)))]) dX5_seek_1 rfl (by decide) rfl ?_
  refine v_aload_n dX5_seek_2 rfl ?_
  refine v_iconst (iI 1) dX5_seek_3 rfl ?_
  refine w_ei (bz true) rfl ?_
  refine v_put (fs' := [.ref 24, .ref 26, .ref 28, .int (iI (bz true))]) fX5_22 dX5_seek_4 h_23 (by decide) (Nat.le_of_ble_eq_true rfl) bz_n bz_f rfl (fun H1 eH1 => ?_)
  have h_23 : H1 23 = oSeeker 24 26 28 true := zf_same eH1
  have fr := fr.put eH1 (by simp)
  refine v_bipush (iI 31) dX5_seek_7 rfl ?_
  refine v_istore (i := 4) (lv' := [(4, .int (iI 31)), (2, .long (jL 0)), (0, .ref 23), (1, .int (iI (k:Nat)))]) dX5_seek_9 (by decide) rfl ?_
  refine w_sub (lv2 := [(0, .ref 23), (1, .int (iI (k:Nat))), (2, .long (jL 0)), (4, .int (iI 31))]) [2, 3, 1, 0] rfl ?_
  have loop : ∀ (t fd : Nat) (mo2 : Bool) (i : Int) (H : zH) (w : Nat), t ≤ 32 → i = (t : Int) - 1 → fd % 2 ^ t = 0 → fd + 2 ^ t ≤ 2 ^ 32 → skf F B k t fd = skf F B k 32 0 → mo2 = decide (fd = 0 ∨ F * fd ^ k < B) → H 23 = oSeeker 24 26 28 mo2 → WD H 24 25 F → WD H 26 27 B → WD H 28 29 w → zFr [23, 28, 29] h H → (zV X (fun r h' n' => r = some (.long (jL (skf F B k 32 0 : Nat))) ∧ n' = n ∧ SK h' F B (decide (skf F B k 32 0 = 0 ∨ F * (skf F B k 32 0) ^ k < B)) ∧ zFr [23, 28, 29] h h') cX5_seek 8 RX5 (some .long) d 0 0 11 [(0, .ref 23), (1, .int (iI (k:Nat))), (2, .long (jL (fd:Nat))), (4, .int (iI i))] [] H n 0 0) := by
    intro t
    induction t with
    | zero =>
      intro fd mo2 i H w ht ei hm hb he hmo h_23 hwF hwB hwT fr
      refine v_iload dX5_seek_11 rfl ?_
      refine w_if_lt 86 dX5_seek_13 (by decide) (by omega) (fun c1 => ?_) (fun c1 => ?_)
      · skip
        refine v_lload_n dX5_seek_86 rfl ?_
        have he : fd = skf F B k 32 0 := he
        exact v_lret dX5_seek_87 trivial (Nat.le_of_ble_eq_true rfl) (Nat.le_of_ble_eq_true rfl) ⟨by rw [← he], rfl, ⟨by rw [← he, ← hmo]; exact h_23, hwF, hwB, w, hwT⟩, fr⟩
      · exact absurd c1 (by omega)
    | succ t ih =>
      intro fd mo2 i H w ht ei hm hb he hmo h_23 hwF hwB hwT fr
      refine v_iload dX5_seek_11 rfl ?_
      refine w_if_lt 86 dX5_seek_13 (by decide) (by omega) (fun c1 => ?_) (fun c1 => ?_)
      · exact absurd c1 (by omega)
      · have hp := p_pos t
        have hp2 : 2 ^ (t + 1) = 2 * 2 ^ t := by rw [Nat.pow_succ, Nat.mul_comm]
        obtain ⟨T, eT⟩ : ∃ T, 2 ^ t = T := ⟨_, rfl⟩
        rw [hp2, eT] at hm hb
        rw [eT] at hp
        have hm2 : (fd + T) % T = 0 := by
          have : fd % (T * 2) % T = fd % T := Nat.mod_mul_right_mod fd T 2
          rw [Nat.mul_comm, hm, Nat.zero_mod] at this
          rw [Nat.add_mod_right]; exact this.symm
        have hm3 : fd % T = 0 := by rw [Nat.add_mod_right] at hm2; exact hm2
        refine v_lload_n dX5_seek_16 rfl ?_
        refine v_lconst (jL 1) dX5_seek_17 rfl ?_
        refine v_iload dX5_seek_18 rfl ?_
        refine w_lshl dX5_seek_20 t (2 ^ t) rfl (by omega) (by omega) ?_
        refine w_el (T:Nat) (by rw [ip, eT]) ?_
        refine w_lor dX5_seek_21 (t + 1) (2 ^ (t + 1)) rfl (by omega) (by rw [ipw, ← Int.natCast_emod, hp2, eT, hm]; rfl) (by rw [ipw, hp2, eT]; omega) ?_
        refine w_el (fd + T:Nat) (by omega) ?_
        refine v_lstore (i := 5) (lv' := [(5, .long (jL (fd + T:Nat))), (0, .ref 23), (1, .int (iI (k:Nat))), (2, .long (jL (fd:Nat))), (4, .int (iI i))]) dX5_seek_22 (by decide) rfl ?_
        refine v_aload_n dX5_seek_24 rfl ?_
        refine v_get fX5_19 dX5_seek_25 h_23 (by decide) rfl ?_
        refine v_aload_n dX5_seek_28 rfl ?_
        refine v_get fX5_10 dX5_seek_29 h_23 (by decide) rfl ?_
        obtain ⟨u1, f1, h_28, -⟩ := id hwT
        refine v_cV (av := [.ref 24]) (st := []) zyX7_copy lX5_26 h_28 rfl (p_copy (d := 2) (a := 28) (b := 29) (c := 24) (e := 25) hwT hwF (by decide) (by decide)) dX5_seek_32 rfl rfl (Nat.le_of_ble_eq_true rfl) (by omega) (Nat.le_of_ble_eq_true rfl) (Nat.le_of_ble_eq_true rfl) (Or.inl (fun _ _ _ q => ZN q)) (fun r9 H2 n9 q9 => ?_)
        obtain ⟨rfl, q9n, hwT, fr9⟩ := q9
        have q9n := q9n.symm
        subst q9n
        have h_23 := (fr9 23 (by decide)).trans h_23
        have hwF := hwF.fr fr9 (by decide) (by decide)
        have hwB := hwB.fr fr9 (by decide) (by decide)
        have fr := fr.tr fr9 (by simp)
        refine v_aload_n dX5_seek_35 rfl ?_
        refine v_get fX5_19 dX5_seek_36 h_23 (by decide) rfl ?_
        refine v_lload dX5_seek_39 rfl ?_
        refine v_iload_n dX5_seek_41 rfl ?_
        have hF2 : F * (fd + T) ^ k < 2 ^ 512 := by
          rcases Nat.eq_zero_or_pos F with z | z
          · rw [z, Nat.zero_mul]; exact p_pos 512
          · have h1 : (fd + T) ^ k < (2 ^ 32) ^ k := Nat.pow_lt_pow_left (by omega) (by omega)
            exact Nat.lt_of_lt_of_le (Nat.mul_lt_mul_of_pos_left h1 z) hF
        obtain ⟨u2, f2, h_28, -⟩ := id hwT
        refine v_cV (av := [.long (jL (fd + T:Nat)), .int (iI (k:Nat))]) (st := []) zyX7_growOften lX5_30 h_28 rfl (p_growOften (d := 2) (a := 28) (b := 29) (x := fd + T) (t := k) hwT (by decide) (by omega) (by omega) hF2) dX5_seek_42 rfl rfl (Nat.le_of_ble_eq_true rfl) (by omega) (Nat.le_of_ble_eq_true rfl) (Nat.le_of_ble_eq_true rfl) (Or.inl (fun _ _ _ q => ZN q)) (fun r9 H3 n9 q9 => ?_)
        obtain ⟨rfl, q9n, hwT, fr8⟩ := q9
        have q9n := q9n.symm
        subst q9n
        have h_23 := (fr8 23 (by decide)).trans h_23
        have hwF := hwF.fr fr8 (by decide) (by decide)
        have hwB := hwB.fr fr8 (by decide) (by decide)
        have fr := fr.tr fr8 (by simp)
        refine v_aload_n dX5_seek_45 rfl ?_
        refine v_get fX5_19 dX5_seek_46 h_23 (by decide) rfl ?_
        refine v_aload_n dX5_seek_49 rfl ?_
        refine v_get fX5_16 dX5_seek_50 h_23 (by decide) rfl ?_
        obtain ⟨u3, f3, h_28, -⟩ := id hwT
        refine v_cV (av := [.ref 26]) (st := []) zyX7_against lX5_34 h_28 rfl (p_against (d := 2) (a := 28) (b := 29) (c := 26) (e := 27) hwT hwB) dX5_seek_53 rfl rfl (Nat.le_of_ble_eq_true rfl) (by omega) (Nat.le_of_ble_eq_true rfl) (Nat.le_of_ble_eq_true rfl) (Or.inl (fun _ _ _ q => ZN q)) (fun r9 K1 n9 q9 => ?_)
        obtain ⟨rfl, q9n, q9h⟩ := q9
        have q9n := q9n.symm
        subst q9n
        have q9h := q9h.symm
        subst q9h
        have hcr : cmpz (F * (fd + T) ^ k) B = -1 ∨ cmpz (F * (fd + T) ^ k) B = 0 ∨ cmpz (F * (fd + T) ^ k) B = 1 := by
          unfold cmpz; split
          · exact Or.inl rfl
          · split
            · exact Or.inr (Or.inl rfl)
            · exact Or.inr (Or.inr rfl)
        have hc1 : cmpz (F * (fd + T) ^ k) B ≤ 0 ↔ F * (fd + T) ^ k ≤ B := by unfold cmpz; split; omega; split <;> omega
        have hc2 : cmpz (F * (fd + T) ^ k) B < 0 ↔ F * (fd + T) ^ k < B := by unfold cmpz; split; omega; split <;> omega
        have hsk : skf F B k (t + 1) fd = if F * (fd + T) ^ k ≤ B then skf F B k t (fd + T) else skf F B k t fd := by rw [← eT]; rfl
        refine v_istore (i := 7) (lv' := [(7, .int (iI (cmpz (F * (fd + T) ^ k) B))), (5, .long (jL (fd + T:Nat))), (0, .ref 23), (1, .int (iI (k:Nat))), (2, .long (jL (fd:Nat))), (4, .int (iI i))]) dX5_seek_56 (by decide) rfl ?_
        refine v_iload dX5_seek_58 rfl ?_
        refine w_if_gt 80 dX5_seek_60 (by decide) (by omega) (fun c2 => ?_) (fun c2 => ?_)
        · have hz : ¬ F * (fd + T) ^ k ≤ B := fun z => by have := hc1.mpr z; omega
          refine w_iinc (lv' := [(4, .int (iI (i + (-1)))), (7, .int (iI (cmpz (F * (fd + T) ^ k) B))), (5, .long (jL (fd + T:Nat))), (0, .ref 23), (1, .int (iI (k:Nat))), (2, .long (jL (fd:Nat)))]) dX5_seek_80 rfl (by decide) rfl ?_
          refine v_goto 11 dX5_seek_83 (by decide) ?_
          refine w_sub (lv2 := [(0, .ref 23), (1, .int (iI (k:Nat))), (2, .long (jL (fd:Nat))), (4, .int (iI (i + (-1))))]) [3, 4, 5, 0] rfl ?_
          exact ih fd mo2 (i + -1) _ _ (by omega) (by omega) (by rw [eT]; exact hm3) (by rw [eT]; omega) (by rw [← he, hsk, if_neg hz]) hmo h_23 hwF hwB hwT fr
        · have hz : F * (fd + T) ^ k ≤ B := hc1.mp (by omega)
          refine v_lload dX5_seek_63 rfl ?_
          refine v_lstore_n (i := 2) (lv' := [(2, .long (jL (fd + T:Nat))), (7, .int (iI (cmpz (F * (fd + T) ^ k) B))), (5, .long (jL (fd + T:Nat))), (0, .ref 23), (1, .int (iI (k:Nat))), (4, .int (iI i))]) dX5_seek_65 rfl (by decide) rfl ?_
          refine v_aload_n dX5_seek_66 rfl ?_
          refine v_iload dX5_seek_67 rfl ?_
          refine w_if_ge 76 dX5_seek_69 (by decide) (by omega) (fun c3 => ?_) (fun c3 => ?_)
          · have hz2 : ¬ F * (fd + T) ^ k < B := fun z => by have := hc2.mpr z; omega
            refine v_iconst (iI 0) dX5_seek_76 rfl ?_
            refine w_ei (bz false) rfl ?_
            refine v_put (fs' := [.ref 24, .ref 26, .ref 28, .int (iI (bz false))]) fX5_22 dX5_seek_77 h_23 (by decide) (Nat.le_of_ble_eq_true rfl) bz_n bz_f rfl (fun H1 eH1 => ?_)
            have h_23 : H1 23 = oSeeker 24 26 28 false := zf_same eH1
            have fr := fr.put eH1 (by simp)
            refine w_iinc (lv' := [(4, .int (iI (i + (-1)))), (2, .long (jL (fd + T:Nat))), (7, .int (iI (cmpz (F * (fd + T) ^ k) B))), (5, .long (jL (fd + T:Nat))), (0, .ref 23), (1, .int (iI (k:Nat)))]) dX5_seek_80 rfl (by decide) rfl ?_
            refine v_goto 11 dX5_seek_83 (by decide) ?_
            refine w_sub (lv2 := [(0, .ref 23), (1, .int (iI (k:Nat))), (2, .long (jL (fd + T:Nat))), (4, .int (iI (i + (-1))))]) [4, 5, 1, 0] rfl ?_
            exact ih (fd + T) false (i + -1) _ _ (by omega) (by omega) (by rw [eT]; exact hm2) (by rw [eT]; omega) (by rw [← he, hsk, if_pos hz]) (decide_eq_false (by omega)).symm h_23 (hwF.fr (zFr.put (S := [23]) zFr.rf eH1 (by simp)) (by decide) (by decide)) (hwB.fr (zFr.put (S := [23]) zFr.rf eH1 (by simp)) (by decide) (by decide)) (hwT.fr (zFr.put (S := [23]) zFr.rf eH1 (by simp)) (by decide) (by decide)) fr
          · have hz2 : F * (fd + T) ^ k < B := hc2.mp (by omega)
            refine v_iconst (iI 1) dX5_seek_72 rfl ?_
            refine v_goto 77 dX5_seek_73 (by decide) ?_
            refine w_ei (bz true) rfl ?_
            refine v_put (fs' := [.ref 24, .ref 26, .ref 28, .int (iI (bz true))]) fX5_22 dX5_seek_77 h_23 (by decide) (Nat.le_of_ble_eq_true rfl) bz_n bz_f rfl (fun H1 eH1 => ?_)
            have h_23 : H1 23 = oSeeker 24 26 28 true := zf_same eH1
            have fr := fr.put eH1 (by simp)
            refine w_iinc (lv' := [(4, .int (iI (i + (-1)))), (2, .long (jL (fd + T:Nat))), (7, .int (iI (cmpz (F * (fd + T) ^ k) B))), (5, .long (jL (fd + T:Nat))), (0, .ref 23), (1, .int (iI (k:Nat)))]) dX5_seek_80 rfl (by decide) rfl ?_
            refine v_goto 11 dX5_seek_83 (by decide) ?_
            refine w_sub (lv2 := [(0, .ref 23), (1, .int (iI (k:Nat))), (2, .long (jL (fd + T:Nat))), (4, .int (iI (i + (-1))))]) [4, 5, 1, 0] rfl ?_
            exact ih (fd + T) true (i + -1) _ _ (by omega) (by omega) (by rw [eT]; exact hm2) (by rw [eT]; omega) (by rw [← he, hsk, if_pos hz]) (decide_eq_true (Or.inr hz2)).symm h_23 (hwF.fr (zFr.put (S := [23]) zFr.rf eH1 (by simp)) (by decide) (by decide)) (hwB.fr (zFr.put (S := [23]) zFr.rf eH1 (by simp)) (by decide) (by decide)) (hwT.fr (zFr.put (S := [23]) zFr.rf eH1 (by simp)) (by decide) (by decide)) fr
  have fz : zFr [23] h H1 := zFr.put zFr.rf eH1 (by simp)
  exact loop 32 0 true 31 _ t0 (by decide) rfl rfl (by decide) rfl (decide_eq_true (Or.inl rfl)).symm h_23 (hwF.fr fz (by decide) (by decide)) (hwB.fr fz (by decide) (by decide)) (hwT.fr fz (by decide) (by decide)) fr
