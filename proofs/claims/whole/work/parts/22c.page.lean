/-! The page: the shortest decimal, its parts -/
section
variable {X : zX} {Post : zP} {cc : ByteArray} {nL : Nat} {own : String} {ret : Option FieldType} {d MC MS pc : Nat} {lv : List (Nat × Value)} {st : List Value} {h : zH} {n cells slots : Nat}
theorem w_sl2 {a : Int} {v : Value} (b : Int) (e : a = b) (k9 : zV X Post cc nL own ret d MC MS pc lv (v :: .long (jL b) :: st) h n cells slots) : zV X Post cc nL own ret d MC MS pc lv (v :: .long (jL a) :: st) h n cells slots := by rw [e]; exact k9
end
def fit (a b : Nat) (ev : Bool) : Bool := decide (a < b) || (decide (a = b) && ev)
theorem cmpz_lt {v w : Nat} : cmpz v w < 0 ↔ v < w := by unfold cmpz; split; omega; split <;> omega
theorem cmpz_eq {v w : Nat} : cmpz v w = 0 ↔ v = w := by unfold cmpz; split; omega; split <;> omega
theorem cmpz_r (v w : Nat) : -1 ≤ cmpz v w ∧ cmpz v w ≤ 1 := by unfold cmpz; split; omega; split <;> omega
set_option maxHeartbeats 4000000 in
set_option maxRecDepth 100000 in
theorem p_fits {d n a b c e v w : Nat} {ob oa ev : Bool} {tens cnt : Int} {h : zH} (h_34 : h 34 = oPage 35 36 37 39 41 43 45 ob oa ev tens cnt) (hw : WD h a b v) (hw2 : WD h c e w) (hd : 1 ≤ d) :
    zM yX1_fits cX1_fits 4 (some .boolean) d 0 0 [.ref 34, .ref a, .ref c] h n (fun r h' n' => r = some (.int (iI (bz (fit v w ev)))) ∧ n' = n ∧ h' = h) := by
  refine zM_of zyX1_fits rfl (Nat.le_of_ble_eq_true rfl) (fun X hX => ?_)
  have hr := cmpz_r v w
  have h1 := @cmpz_lt v w
  have h2 := @cmpz_eq v w
  obtain ⟨u9, f9, h_a, -⟩ := id hw
  refine v_aload_n dX1_fits_0 rfl ?_
  refine v_aload_n dX1_fits_1 rfl ?_
  refine v_cV (av := [.ref c]) (st := []) zyX7_against lX1_145 h_a rfl (p_against (d := 0) hw hw2) dX1_fits_2 rfl rfl (Nat.le_of_ble_eq_true rfl) (by omega) (Nat.le_of_ble_eq_true rfl) (Nat.le_of_ble_eq_true rfl) (Or.inl (fun _ _ _ q => ZN q)) (fun r9 K1 n9 q9 => ?_)
  obtain ⟨rfl, q9n, q9h⟩ := q9
  have q9n := q9n.symm
  subst q9n
  have q9h := q9h.symm
  subst q9h
  refine v_istore_n (i := 3) (lv' := [(3, .int (iI (cmpz v w))), (0, .ref 34), (1, .ref a), (2, .ref c)]) dX1_fits_5 rfl (by decide) rfl ?_
  refine v_iload_n dX1_fits_6 rfl ?_
  refine w_if_lt 21 dX1_fits_7 (by decide) (by omega) (fun c1 => ?_) (fun c1 => ?_)
  · have c1 := h1.mp c1
    refine v_iconst (iI 1) dX1_fits_21 rfl ?_
    refine v_goto 26 dX1_fits_22 (by decide) ?_
    refine w_ei (bz true) rfl ?_
    exact v_iret dX1_fits_26 bz_ret (Nat.le_of_ble_eq_true rfl) (Nat.le_of_ble_eq_true rfl) ⟨by unfold fit; rw [decide_eq_true c1]; rfl, rfl, rfl⟩
  · have c1 : ¬ v < w := fun z => c1 (h1.mpr z)
    refine v_iload_n dX1_fits_10 rfl ?_
    refine w_if_ne 25 dX1_fits_11 (by decide) (by omega) (fun c2 => ?_) (fun c2 => ?_)
    · have c2 : ¬ v = w := fun z => c2 (h2.mpr z)
      refine v_iconst (iI 0) dX1_fits_25 rfl ?_
      refine w_ei (bz false) rfl ?_
      exact v_iret dX1_fits_26 bz_ret (Nat.le_of_ble_eq_true rfl) (Nat.le_of_ble_eq_true rfl) ⟨by unfold fit; rw [decide_eq_false c1, decide_eq_false c2]; rfl, rfl, rfl⟩
    · have c2 := h2.mp c2
      refine v_aload_n dX1_fits_14 rfl ?_
      refine v_get fX1_105 dX1_fits_15 h_34 (by decide) rfl ?_
      refine w_ifb_eq 25 dX1_fits_18 (by decide) (fun c3 => ?_) (fun c3 => ?_)
      · skip
        refine v_iconst (iI 0) dX1_fits_25 rfl ?_
        refine w_ei (bz false) rfl ?_
        exact v_iret dX1_fits_26 bz_ret (Nat.le_of_ble_eq_true rfl) (Nat.le_of_ble_eq_true rfl) ⟨by unfold fit; rw [decide_eq_false c1, c3, Bool.and_false]; rfl, rfl, rfl⟩
      · skip
        refine v_iconst (iI 1) dX1_fits_21 rfl ?_
        refine v_goto 26 dX1_fits_22 (by decide) ?_
        refine w_ei (bz true) rfl ?_
        exact v_iret dX1_fits_26 bz_ret (Nat.le_of_ble_eq_true rfl) (Nat.le_of_ble_eq_true rfl) ⟨by unfold fit; rw [decide_eq_true c2, c3]; simp, rfl, rfl⟩
set_option maxHeartbeats 4000000 in
set_option maxRecDepth 100000 in
theorem p_growParts {d n R B A : Nat} {ob oa ev : Bool} {tens cnt : Int} {h : zH} (h_34 : h 34 = oPage 35 36 37 39 41 43 45 ob oa ev tens cnt) (hR : WD h 37 38 R) (hB : WD h 41 42 B) (hA : WD h 43 44 A) (h1 : R * 10 < 2 ^ 512) (h2 : B * 10 < 2 ^ 512) (h3 : A * 10 < 2 ^ 512) (hd : 2 ≤ d) :
    zM yX1_growParts cX1_growParts 1 none d 0 0 [.ref 34] h n (fun r h' n' => r = none ∧ n' = n ∧ WD h' 37 38 (R * 10) ∧ WD h' 41 42 (B * 10) ∧ WD h' 43 44 (A * 10) ∧ zFr [37, 38, 41, 42, 43, 44] h h') := by
  refine zM_of zyX1_growParts rfl (Nat.le_of_ble_eq_true rfl) (fun X hX => ?_)
  have fr : zFr [37, 38, 41, 42, 43, 44] h h := zFr.rf
  refine v_aload_n dX1_growParts_0 rfl ?_
  refine v_get fX1_23 dX1_growParts_1 h_34 (by decide) rfl ?_
  refine v_ldc2_w (v := jL 10) kX1_139 dX1_growParts_4 ?_
  refine v_lconst (jL 0) dX1_growParts_7 rfl ?_
  obtain ⟨u937, f937, h_37, -⟩ := id hR
  refine v_cV (av := [.long (jL 10), .long (jL 0)]) (st := []) zyX7_grow lX1_141 h_37 rfl (p_grow (d := 1) (x := 10) (y := 0) hR (by decide) (by decide) (by decide) (by omega)) dX1_growParts_8 rfl rfl (Nat.le_of_ble_eq_true rfl) (by omega) (Nat.le_of_ble_eq_true rfl) (Nat.le_of_ble_eq_true rfl) (Or.inl (fun _ _ _ q => ZN q)) (fun r9 G1 n9 q9 => ?_)
  obtain ⟨rfl, q9n, hR, fr9⟩ := q9
  have q9n := q9n.symm
  subst q9n
  have h_34 := (fr9 34 (by decide)).trans h_34
  have hB := hB.fr fr9 (by decide) (by decide)
  have hA := hA.fr fr9 (by decide) (by decide)
  have fr := fr.tr fr9 (by decide)
  refine v_aload_n dX1_growParts_11 rfl ?_
  refine v_get fX1_30 dX1_growParts_12 h_34 (by decide) rfl ?_
  refine v_ldc2_w (v := jL 10) kX1_139 dX1_growParts_15 ?_
  refine v_lconst (jL 0) dX1_growParts_18 rfl ?_
  obtain ⟨u941, f941, h_41, -⟩ := id hB
  refine v_cV (av := [.long (jL 10), .long (jL 0)]) (st := []) zyX7_grow lX1_141 h_41 rfl (p_grow (d := 1) (x := 10) (y := 0) hB (by decide) (by decide) (by decide) (by omega)) dX1_growParts_19 rfl rfl (Nat.le_of_ble_eq_true rfl) (by omega) (Nat.le_of_ble_eq_true rfl) (Nat.le_of_ble_eq_true rfl) (Or.inl (fun _ _ _ q => ZN q)) (fun r9 G2 n9 q9 => ?_)
  obtain ⟨rfl, q9n, hB, fr8⟩ := q9
  have q9n := q9n.symm
  subst q9n
  have h_34 := (fr8 34 (by decide)).trans h_34
  have hR := hR.fr fr8 (by decide) (by decide)
  have hA := hA.fr fr8 (by decide) (by decide)
  have fr := fr.tr fr8 (by decide)
  refine v_aload_n dX1_growParts_22 rfl ?_
  refine v_get fX1_33 dX1_growParts_23 h_34 (by decide) rfl ?_
  refine v_ldc2_w (v := jL 10) kX1_139 dX1_growParts_26 ?_
  refine v_lconst (jL 0) dX1_growParts_29 rfl ?_
  obtain ⟨u943, f943, h_43, -⟩ := id hA
  refine v_cV (av := [.long (jL 10), .long (jL 0)]) (st := []) zyX7_grow lX1_141 h_43 rfl (p_grow (d := 1) (x := 10) (y := 0) hA (by decide) (by decide) (by decide) (by omega)) dX1_growParts_30 rfl rfl (Nat.le_of_ble_eq_true rfl) (by omega) (Nat.le_of_ble_eq_true rfl) (Nat.le_of_ble_eq_true rfl) (Or.inl (fun _ _ _ q => ZN q)) (fun r9 G3 n9 q9 => ?_)
  obtain ⟨rfl, q9n, hA, fr7⟩ := q9
  have q9n := q9n.symm
  subst q9n
  have h_34 := (fr7 34 (by decide)).trans h_34
  have hR := hR.fr fr7 (by decide) (by decide)
  have hB := hB.fr fr7 (by decide) (by decide)
  have fr := fr.tr fr7 (by decide)
  exact v_vret dX1_growParts_33 trivial (Nat.le_of_ble_eq_true rfl) (Nat.le_of_ble_eq_true rfl) ⟨rfl, rfl, hR, hB, hA, fr⟩
set_option maxHeartbeats 4000000 in
set_option maxRecDepth 100000 in
theorem p_loadUnits {d n a b e v0 sg : Nat} {na mi : Bool} {ex : Int} {h : zH} (hw : WD h a b v0) (h_e : h e = oPosit na mi (sg:Nat) ex) (he : e ≠ a ∧ e ≠ b) (hs : sg < 2147483648) (hx : -120 ≤ ex ∧ ex ≤ 200) (hd : 2 ≤ d) (hv : sg * 2 ^ (ex + 120).toNat < 2 ^ 512) :
    zM yX1_loadUnits cX1_loadUnits 2 none d 0 0 [.ref a, .ref e] h n (fun r h' n' => r = none ∧ n' = n ∧ WD h' a b (sg * 2 ^ (ex + 120).toNat) ∧ zFr [a, b] h h') := by
  refine zM_of zyX1_loadUnits rfl (Nat.le_of_ble_eq_true rfl) (fun X hX => ?_)
  have fr : zFr [a, b] h h := zFr.rf
  obtain ⟨u9, f9, h_a, -⟩ := id hw
  refine v_aload_n dX1_loadUnits_0 rfl ?_
  refine v_aload_n dX1_loadUnits_1 rfl ?_
  refine v_get fX1_56 dX1_loadUnits_2 h_e (by decide) rfl ?_
  refine v_cV (av := [.long (jL (sg:Nat))]) (st := []) zyX7_put lX1_60 h_a rfl (p_put (d := 1) hw (by decide) (by omega)) dX1_loadUnits_5 rfl rfl (Nat.le_of_ble_eq_true rfl) (by omega) (Nat.le_of_ble_eq_true rfl) (Nat.le_of_ble_eq_true rfl) (Or.inl (fun _ _ _ q => ZN q)) (fun r9 G1 n9 q9 => ?_)
  obtain ⟨rfl, q9n, hw, fr9⟩ := q9
  have q9n := q9n.symm
  subst q9n
  have h_e := (fr9 e (by simp [he])).trans h_e
  obtain ⟨u8, f8, h_a, -⟩ := id hw
  refine v_aload_n dX1_loadUnits_8 rfl ?_
  refine v_aload_n dX1_loadUnits_9 rfl ?_
  refine v_get fX1_47 dX1_loadUnits_10 h_e (by decide) rfl ?_
  refine v_bipush (iI 120) dX1_loadUnits_13 rfl ?_
  refine w_iadd dX1_loadUnits_15 ?_
  refine w_ei ((ex + 120).toNat:Nat) (by omega) ?_
  refine v_cV (av := [.int (iI ((ex + 120).toNat:Nat))]) (st := []) zyX7_shiftUp lX1_64 h_a rfl (p_shiftUp (d := 1) hw (by decide) (by omega) hv) dX1_loadUnits_16 rfl rfl (Nat.le_of_ble_eq_true rfl) (by omega) (Nat.le_of_ble_eq_true rfl) (Nat.le_of_ble_eq_true rfl) (Or.inl (fun _ _ _ q => ZN q)) (fun r9 G2 n9 q9 => ?_)
  obtain ⟨rfl, q9n, hw, fr8⟩ := q9
  have q9n := q9n.symm
  subst q9n
  exact v_vret dX1_loadUnits_19 trivial (Nat.le_of_ble_eq_true rfl) (Nat.le_of_ble_eq_true rfl) ⟨rfl, rfl, hw, fr9.tr fr8 (by simp)⟩
abbrev PGS : List Nat := [34, 37, 38, 39, 40, 41, 42, 43, 44, 45, 46]
abbrev PGE : List Nat := [34, 36, 37, 38, 39, 40, 41, 42, 43, 44, 45, 46]
set_option maxHeartbeats 4000000 in
set_option maxRecDepth 100000 in
theorem p_loadBounds {d n sg w u R0 U0 B0 A0 G0 EL EH R : Nat} {na mi ob0 oa0 ev0 na2 mi2 : Bool} {ex tens s2 x2 : Int} {L : List Nat} {h : zH} (hp : PT h ob0 oa0 ev0 tens L) (hR : WD h 37 38 R0) (hU : WD h 39 40 U0) (hB : WD h 41 42 B0) (hA : WD h 43 44 A0) (hG : WD h 45 46 G0) (h_36 : h 36 = oPosit na2 mi2 s2 x2) (h_12 : h 12 = oPosit na mi (sg:Nat) ex) (hs : sg < 1073741824) (hx : -120 ≤ ex ∧ ex ≤ 120) (hw : 3 ≤ w ∧ w ≤ 32) (hu : 0 < u ∧ u < 2 ^ (w - 1)) (hd : 3 ≤ d)
    (eR : sg * 2 ^ (ex + 120).toNat = R) (hR1 : R < 2 ^ 500) (hEL : u ≠ 1 → (∀ (s : Nat) (x : Int), ld (2 * u - 1) (w + 1) s x → -120 ≤ x ∧ x ≤ 120 ∧ s * 2 ^ (x + 120).toNat = EL) ∧ EL ≤ R) (hEH : u ≠ 2 ^ (w - 1) - 1 → (∀ (s : Nat) (x : Int), ld (2 * u + 1) (w + 1) s x → -120 ≤ x ∧ x ≤ 120 ∧ s * 2 ^ (x + 120).toNat = EH) ∧ R ≤ EH ∧ EH < 2 ^ 500) :
    zM yX1_loadBounds cX1_loadBounds 5 none d 0 0 [.ref 34, .ref 12, .long (jL (u:Nat)), .int (iI (w:Nat))] h n (fun r h' n' => r = none ∧ n' = n ∧ PT h' (decide (u = 1)) (decide (u = 2 ^ (w - 1) - 1)) (decide (u % 2 = 0)) tens L ∧ WD h' 37 38 R ∧ WD h' 39 40 (1 * 2 ^ 120) ∧ WD h' 41 42 (if u = 1 then 0 else R - EL) ∧ WD h' 43 44 (if u = 2 ^ (w - 1) - 1 then 0 else EH - R) ∧ (∃ v, WD h' 45 46 v) ∧ (∃ na mi s x, h' 36 = oPosit na mi s x) ∧ zFr PGE h h') := by
  obtain ⟨q, eq⟩ : ∃ q, 2 ^ (w - 1) = q := ⟨_, rfl⟩
  have e2 : 2 ^ w = 2 * q := by rw [← eq, Nat.mul_comm, ← Nat.pow_succ]; congr 1; omega
  have e3 : 2 ^ (w + 1) = 4 * q := by rw [Nat.pow_succ, e2]; omega
  have hq2 : q ≤ 2147483648 := by rw [← eq]; exact Nat.pow_le_pow_right (show 0 < 2 by decide) (show w - 1 ≤ 31 by omega)
  have hq3 : 4 ≤ q := by rw [← eq]; exact Nat.pow_le_pow_right (show 0 < 2 by decide) (show 2 ≤ w - 1 by omega)
  rw [eq] at hu hEH
  obtain ⟨f, h_34, h_35, hb, htx, hl⟩ := hp
  obtain ⟨ob, eob⟩ : ∃ ob, decide (u = 1) = ob := ⟨_, rfl⟩
  obtain ⟨oa, eoa⟩ : ∃ oa, decide (u = q - 1) = oa := ⟨_, rfl⟩
  obtain ⟨ev, eev⟩ : ∃ ev, decide (u % 2 = 0) = ev := ⟨_, rfl⟩
  have ldp : ∀ (p s : Nat) (x : Int), 0 < p → p < 2 * q → pd p (w + 1) s x → ld p (w + 1) s x := by
    intro p s x h1 h2 hp
    unfold pd pmag at hp
    rw [show w + 1 - 1 = w from rfl, e2, if_neg (by omega), if_neg (by omega)] at hp
    exact hp
  refine zM_of zyX1_loadBounds rfl (Nat.le_of_ble_eq_true rfl) (fun X hX => ?_)
  have fr : zFr PGE h h := zFr.rf
  have j182 : ∀ (H : zH) (na3 mi3 : Bool) (s3 x3 : Int) (v3 : Nat), H 34 = oPage 35 36 37 39 41 43 45 ob oa ev tens (L.length:Nat) → H 35 = aN 160 f → H 36 = oPosit na3 mi3 s3 x3 → WD H 37 38 R → WD H 39 40 U0 → WD H 41 42 (if u = 1 then 0 else R - EL) → WD H 43 44 (if u = q - 1 then 0 else EH - R) → WD H 45 46 v3 → zFr PGE h H → (zV X (fun r h' n' => r = none ∧ n' = n ∧ PT h' (decide (u = 1)) (decide (u = 2 ^ (w - 1) - 1)) (decide (u % 2 = 0)) tens L ∧ WD h' 37 38 R ∧ WD h' 39 40 (1 * 2 ^ 120) ∧ WD h' 41 42 (if u = 1 then 0 else R - EL) ∧ WD h' 43 44 (if u = 2 ^ (w - 1) - 1 then 0 else EH - R) ∧ (∃ v, WD h' 45 46 v) ∧ (∃ na mi s x, h' 36 = oPosit na mi s x) ∧ zFr PGE h h') cX1_loadBounds 5 RX1 none d 0 0 182 [(0, .ref 34), (1, .ref 12), (2, .long (jL (u:Nat))), (4, .int (iI (w:Nat)))] [] H n 0 0) := by
    intro H na3 mi3 s3 x3 v3 h_34 h_35 h_36 hR hU hB hA hG fr
    rw [eq, eob, eoa, eev]
    refine v_aload_n dX1_loadBounds_182 rfl ?_
    refine v_get fX1_27 dX1_loadBounds_183 h_34 (by decide) rfl ?_
    refine v_lconst (jL 1) dX1_loadBounds_186 rfl ?_
    obtain ⟨u939, f939, h_39, -⟩ := id hU
    refine v_cV (av := [.long (jL 1)]) (st := []) zyX7_put lX1_60 h_39 rfl (p_put (d := 2) (x := 1) hU (by decide) (by decide)) dX1_loadBounds_187 rfl rfl (Nat.le_of_ble_eq_true rfl) (by omega) (Nat.le_of_ble_eq_true rfl) (Nat.le_of_ble_eq_true rfl) (Or.inl (fun _ _ _ q => ZN q)) (fun r9 G1 n9 q9 => ?_)
    obtain ⟨rfl, q9n, hU, fr9⟩ := q9
    have q9n := q9n.symm
    subst q9n
    have h_34 := (fr9 34 (by decide)).trans h_34
    have h_35 := (fr9 35 (by decide)).trans h_35
    have h_36 := (fr9 36 (by decide)).trans h_36
    have hR := hR.fr fr9 (by decide) (by decide)
    have hB := hB.fr fr9 (by decide) (by decide)
    have hA := hA.fr fr9 (by decide) (by decide)
    have hG := hG.fr fr9 (by decide) (by decide)
    have fr := fr.tr fr9 (by decide)
    refine v_aload_n dX1_loadBounds_190 rfl ?_
    refine v_get fX1_27 dX1_loadBounds_191 h_34 (by decide) rfl ?_
    refine v_bipush (iI 120) dX1_loadBounds_194 rfl ?_
    obtain ⟨u939, f939, h_39, -⟩ := id hU
    refine v_cV (av := [.int (iI 120)]) (st := []) zyX7_shiftUp lX1_64 h_39 rfl (p_shiftUp (d := 2) (t := 120) hU (by decide) (by decide) (by decide)) dX1_loadBounds_196 rfl rfl (Nat.le_of_ble_eq_true rfl) (by omega) (Nat.le_of_ble_eq_true rfl) (Nat.le_of_ble_eq_true rfl) (Or.inl (fun _ _ _ q => ZN q)) (fun r9 G2 n9 q9 => ?_)
    obtain ⟨rfl, q9n, hU, fr8⟩ := q9
    have q9n := q9n.symm
    subst q9n
    have h_34 := (fr8 34 (by decide)).trans h_34
    have h_35 := (fr8 35 (by decide)).trans h_35
    have h_36 := (fr8 36 (by decide)).trans h_36
    have hR := hR.fr fr8 (by decide) (by decide)
    have hB := hB.fr fr8 (by decide) (by decide)
    have hA := hA.fr fr8 (by decide) (by decide)
    have hG := hG.fr fr8 (by decide) (by decide)
    have fr := fr.tr fr8 (by decide)
    exact v_vret dX1_loadBounds_199 trivial (Nat.le_of_ble_eq_true rfl) (Nat.le_of_ble_eq_true rfl) ⟨rfl, rfl, ⟨f, h_34, h_35, hb, htx, hl⟩, hR, hU, hB, hA, ⟨_, hG⟩, ⟨_, _, _, _, h_36⟩, fr⟩
  have j135 : ∀ (H : zH) (na3 mi3 : Bool) (s3 x3 : Int) (v3 : Nat), H 34 = oPage 35 36 37 39 41 43 45 ob oa ev tens (L.length:Nat) → H 35 = aN 160 f → H 36 = oPosit na3 mi3 s3 x3 → WD H 37 38 R → WD H 39 40 U0 → WD H 41 42 (if u = 1 then 0 else R - EL) → WD H 43 44 0 → WD H 45 46 v3 → zFr PGE h H → (zV X (fun r h' n' => r = none ∧ n' = n ∧ PT h' (decide (u = 1)) (decide (u = 2 ^ (w - 1) - 1)) (decide (u % 2 = 0)) tens L ∧ WD h' 37 38 R ∧ WD h' 39 40 (1 * 2 ^ 120) ∧ WD h' 41 42 (if u = 1 then 0 else R - EL) ∧ WD h' 43 44 (if u = 2 ^ (w - 1) - 1 then 0 else EH - R) ∧ (∃ v, WD h' 45 46 v) ∧ (∃ na mi s x, h' 36 = oPosit na mi s x) ∧ zFr PGE h h') cX1_loadBounds 5 RX1 none d 0 0 135 [(0, .ref 34), (1, .ref 12), (2, .long (jL (u:Nat))), (4, .int (iI (w:Nat)))] [] H n 0 0) := by
    intro H na3 mi3 s3 x3 v3 h_34 h_35 h_36 hR hU hB hA hG fr
    refine v_aload_n dX1_loadBounds_135 rfl ?_
    refine v_get fX1_117 dX1_loadBounds_136 h_34 (by decide) rfl ?_
    refine w_ifb_ne 182 dX1_loadBounds_139 (by decide) (fun c1 => ?_) (fun c1 => ?_)
    · have c2 : u = q - 1 := of_decide_eq_true (eoa.trans c1)
      exact j182 _ _ _ _ _ _ h_34 h_35 h_36 hR hU hB (by rw [if_pos c2]; exact hA) hG fr
    · have c2 : u ≠ q - 1 := of_decide_eq_false (eoa.trans c1)
      obtain ⟨hE1, hE2, hE3⟩ := hEH c2
      refine v_aload_n dX1_loadBounds_142 rfl ?_
      refine v_get fX1_16 dX1_loadBounds_143 h_34 (by decide) rfl ?_
      refine v_ldc2_w (v := jL 2) kX1_124 dX1_loadBounds_146 ?_
      refine v_lload_n dX1_loadBounds_149 rfl ?_
      refine w_lmul dX1_loadBounds_150 ?_
      refine v_lconst (jL 1) dX1_loadBounds_151 rfl ?_
      refine w_ladd dX1_loadBounds_152 ?_
      refine v_iload dX1_loadBounds_153 rfl ?_
      refine v_iconst (iI 1) dX1_loadBounds_155 rfl ?_
      refine w_iadd dX1_loadBounds_156 ?_
      refine w_ei (w + 1:Nat) (by omega) ?_
      refine w_sl2 (2 * u + 1:Nat) (by omega) ?_
      refine v_cV (av := [.long (jL (2 * u + 1:Nat)), .int (iI (w + 1:Nat))]) (st := []) zyX2_load lX1_126 h_36 rfl (p_load (d := 2) (p := 2 * u + 1) (w := w + 1) h_36 (by decide) (by omega) (by rw [e3]; omega)) dX1_loadBounds_157 rfl rfl (Nat.le_of_ble_eq_true rfl) (by omega) (Nat.le_of_ble_eq_true rfl) (Nat.le_of_ble_eq_true rfl) (Or.inl (fun _ _ _ q => ZN q)) (fun r9 G1 n9 q9 => ?_)
      obtain ⟨rfl, q9n, ⟨s4, x4, h_36, hpd⟩, fr9⟩ := q9
      have q9n := q9n.symm
      subst q9n
      obtain ⟨hx1, hx2, hx3⟩ := hE1 s4 x4 (ldp _ _ _ (by omega) (by omega) hpd)
      have hs4 := ld_lt (ldp _ _ _ (by omega) (by omega) hpd)
      have h_34 := (fr9 34 (by decide)).trans h_34
      have h_35 := (fr9 35 (by decide)).trans h_35
      have hR := hR.fr fr9 (by decide) (by decide)
      have hU := hU.fr fr9 (by decide) (by decide)
      have hB := hB.fr fr9 (by decide) (by decide)
      have hA := hA.fr fr9 (by decide) (by decide)
      have hG := hG.fr fr9 (by decide) (by decide)
      have fr := fr.tr fr9 (by decide)
      refine v_aload_n dX1_loadBounds_160 rfl ?_
      refine v_get fX1_33 dX1_loadBounds_161 h_34 (by decide) rfl ?_
      refine v_aload_n dX1_loadBounds_164 rfl ?_
      refine v_get fX1_16 dX1_loadBounds_165 h_34 (by decide) rfl ?_
      refine v_cS (av := [.ref 43, .ref 36]) (st := []) zyX1_loadUnits lX1_120 (p_loadUnits (d := 2) hA h_36 (by decide) (by omega) (by omega) (by decide) (by omega)) dX1_loadBounds_168 rfl rfl (Nat.le_of_ble_eq_true rfl) (by omega) (Nat.le_of_ble_eq_true rfl) (Nat.le_of_ble_eq_true rfl) (Or.inl (fun _ _ _ q => ZN q)) (fun r9 G2 n9 q9 => ?_)
      obtain ⟨rfl, q9n, hA, fr8⟩ := q9
      have q9n := q9n.symm
      subst q9n
      rw [hx3] at hA
      have h_36 := (fr8 36 (by decide)).trans h_36
      have h_34 := (fr8 34 (by decide)).trans h_34
      have h_35 := (fr8 35 (by decide)).trans h_35
      have hR := hR.fr fr8 (by decide) (by decide)
      have hU := hU.fr fr8 (by decide) (by decide)
      have hB := hB.fr fr8 (by decide) (by decide)
      have hG := hG.fr fr8 (by decide) (by decide)
      have fr := fr.tr fr8 (by decide)
      refine v_aload_n dX1_loadBounds_171 rfl ?_
      refine v_get fX1_33 dX1_loadBounds_172 h_34 (by decide) rfl ?_
      refine v_aload_n dX1_loadBounds_175 rfl ?_
      refine v_get fX1_23 dX1_loadBounds_176 h_34 (by decide) rfl ?_
      obtain ⟨u943, f943, h_43, -⟩ := id hA
      refine v_cV (av := [.ref 37]) (st := []) zyX7_lower lX1_133 h_43 rfl (p_lower (d := 2) hA hR (by decide) (by decide) hE2) dX1_loadBounds_179 rfl rfl (Nat.le_of_ble_eq_true rfl) (by omega) (Nat.le_of_ble_eq_true rfl) (Nat.le_of_ble_eq_true rfl) (Or.inl (fun _ _ _ q => ZN q)) (fun r9 G3 n9 q9 => ?_)
      obtain ⟨rfl, q9n, hA, fr7⟩ := q9
      have q9n := q9n.symm
      subst q9n
      have h_36 := (fr7 36 (by decide)).trans h_36
      have h_34 := (fr7 34 (by decide)).trans h_34
      have h_35 := (fr7 35 (by decide)).trans h_35
      have hR := hR.fr fr7 (by decide) (by decide)
      have hU := hU.fr fr7 (by decide) (by decide)
      have hB := hB.fr fr7 (by decide) (by decide)
      have hG := hG.fr fr7 (by decide) (by decide)
      have fr := fr.tr fr7 (by decide)
      exact j182 _ _ _ _ _ _ h_34 h_35 h_36 hR hU hB (by rw [if_neg c2]; exact hA) hG fr
  have j53 : ∀ (H : zH), H 34 = oPage 35 36 37 39 41 43 45 ob oa ev tens (L.length:Nat) → H 35 = aN 160 f → H 36 = oPosit na2 mi2 s2 x2 → H 12 = oPosit na mi (sg:Nat) ex → WD H 37 38 R0 → WD H 39 40 U0 → WD H 41 42 B0 → WD H 43 44 A0 → WD H 45 46 G0 → zFr PGE h H → (zV X (fun r h' n' => r = none ∧ n' = n ∧ PT h' (decide (u = 1)) (decide (u = 2 ^ (w - 1) - 1)) (decide (u % 2 = 0)) tens L ∧ WD h' 37 38 R ∧ WD h' 39 40 (1 * 2 ^ 120) ∧ WD h' 41 42 (if u = 1 then 0 else R - EL) ∧ WD h' 43 44 (if u = 2 ^ (w - 1) - 1 then 0 else EH - R) ∧ (∃ v, WD h' 45 46 v) ∧ (∃ na mi s x, h' 36 = oPosit na mi s x) ∧ zFr PGE h h') cX1_loadBounds 5 RX1 none d 0 0 53 [(0, .ref 34), (1, .ref 12), (2, .long (jL (u:Nat))), (4, .int (iI (w:Nat)))] [] H n 0 0) := by
    intro H h_34 h_35 h_36 h_12 hR hU hB hA hG fr
    refine v_aload_n dX1_loadBounds_53 rfl ?_
    refine v_get fX1_23 dX1_loadBounds_54 h_34 (by decide) rfl ?_
    refine v_aload_n dX1_loadBounds_57 rfl ?_
    refine v_cS (av := [.ref 37, .ref 12]) (st := []) zyX1_loadUnits lX1_120 (p_loadUnits (d := 2) hR h_12 (by decide) (by omega) (by omega) (by decide) (by omega)) dX1_loadBounds_58 rfl rfl (Nat.le_of_ble_eq_true rfl) (by omega) (Nat.le_of_ble_eq_true rfl) (Nat.le_of_ble_eq_true rfl) (Or.inl (fun _ _ _ q => ZN q)) (fun r9 G1 n9 q9 => ?_)
    obtain ⟨rfl, q9n, hR, fr9⟩ := q9
    have q9n := q9n.symm
    subst q9n
    rw [eR] at hR
    have h_34 := (fr9 34 (by decide)).trans h_34
    have h_35 := (fr9 35 (by decide)).trans h_35
    have h_36 := (fr9 36 (by decide)).trans h_36
    have hU := hU.fr fr9 (by decide) (by decide)
    have hB := hB.fr fr9 (by decide) (by decide)
    have hA := hA.fr fr9 (by decide) (by decide)
    have hG := hG.fr fr9 (by decide) (by decide)
    have fr := fr.tr fr9 (by decide)
    refine v_aload_n dX1_loadBounds_61 rfl ?_
    refine v_get fX1_30 dX1_loadBounds_62 h_34 (by decide) rfl ?_
    refine v_lconst (jL 0) dX1_loadBounds_65 rfl ?_
    obtain ⟨u941, f941, h_41, -⟩ := id hB
    refine v_cV (av := [.long (jL 0)]) (st := []) zyX7_put lX1_60 h_41 rfl (p_put (d := 2) (x := 0) hB (by decide) (by decide)) dX1_loadBounds_66 rfl rfl (Nat.le_of_ble_eq_true rfl) (by omega) (Nat.le_of_ble_eq_true rfl) (Nat.le_of_ble_eq_true rfl) (Or.inl (fun _ _ _ q => ZN q)) (fun r9 G2 n9 q9 => ?_)
    obtain ⟨rfl, q9n, hB, fr8⟩ := q9
    have q9n := q9n.symm
    subst q9n
    have h_34 := (fr8 34 (by decide)).trans h_34
    have h_35 := (fr8 35 (by decide)).trans h_35
    have h_36 := (fr8 36 (by decide)).trans h_36
    have hR := hR.fr fr8 (by decide) (by decide)
    have hU := hU.fr fr8 (by decide) (by decide)
    have hA := hA.fr fr8 (by decide) (by decide)
    have hG := hG.fr fr8 (by decide) (by decide)
    have fr := fr.tr fr8 (by decide)
    refine v_aload_n dX1_loadBounds_69 rfl ?_
    refine v_get fX1_33 dX1_loadBounds_70 h_34 (by decide) rfl ?_
    refine v_lconst (jL 0) dX1_loadBounds_73 rfl ?_
    obtain ⟨u943, f943, h_43, -⟩ := id hA
    refine v_cV (av := [.long (jL 0)]) (st := []) zyX7_put lX1_60 h_43 rfl (p_put (d := 2) (x := 0) hA (by decide) (by decide)) dX1_loadBounds_74 rfl rfl (Nat.le_of_ble_eq_true rfl) (by omega) (Nat.le_of_ble_eq_true rfl) (Nat.le_of_ble_eq_true rfl) (Or.inl (fun _ _ _ q => ZN q)) (fun r9 G3 n9 q9 => ?_)
    obtain ⟨rfl, q9n, hA, fr7⟩ := q9
    have q9n := q9n.symm
    subst q9n
    have h_34 := (fr7 34 (by decide)).trans h_34
    have h_35 := (fr7 35 (by decide)).trans h_35
    have h_36 := (fr7 36 (by decide)).trans h_36
    have hR := hR.fr fr7 (by decide) (by decide)
    have hU := hU.fr fr7 (by decide) (by decide)
    have hB := hB.fr fr7 (by decide) (by decide)
    have hG := hG.fr fr7 (by decide) (by decide)
    have fr := fr.tr fr7 (by decide)
    refine v_aload_n dX1_loadBounds_77 rfl ?_
    refine v_get fX1_108 dX1_loadBounds_78 h_34 (by decide) rfl ?_
    refine w_ifb_ne 135 dX1_loadBounds_81 (by decide) (fun c1 => ?_) (fun c1 => ?_)
    · have c2 : u = 1 := of_decide_eq_true (eob.trans c1)
      exact j135 _ _ _ _ _ _ h_34 h_35 h_36 hR hU (by rw [if_pos c2]; exact hB) hA hG fr
    · have c2 : u ≠ 1 := of_decide_eq_false (eob.trans c1)
      obtain ⟨hE1, hE2⟩ := hEL c2
      refine v_aload_n dX1_loadBounds_84 rfl ?_
      refine v_get fX1_16 dX1_loadBounds_85 h_34 (by decide) rfl ?_
      refine v_ldc2_w (v := jL 2) kX1_124 dX1_loadBounds_88 ?_
      refine v_lload_n dX1_loadBounds_91 rfl ?_
      refine w_lmul dX1_loadBounds_92 ?_
      refine v_lconst (jL 1) dX1_loadBounds_93 rfl ?_
      refine w_lsub dX1_loadBounds_94 ?_
      refine v_iload dX1_loadBounds_95 rfl ?_
      refine v_iconst (iI 1) dX1_loadBounds_97 rfl ?_
      refine w_iadd dX1_loadBounds_98 ?_
      refine w_ei (w + 1:Nat) (by omega) ?_
      refine w_sl2 (2 * u - 1:Nat) (by omega) ?_
      refine v_cV (av := [.long (jL (2 * u - 1:Nat)), .int (iI (w + 1:Nat))]) (st := []) zyX2_load lX1_126 h_36 rfl (p_load (d := 2) (p := 2 * u - 1) (w := w + 1) h_36 (by decide) (by omega) (by rw [e3]; omega)) dX1_loadBounds_99 rfl rfl (Nat.le_of_ble_eq_true rfl) (by omega) (Nat.le_of_ble_eq_true rfl) (Nat.le_of_ble_eq_true rfl) (Or.inl (fun _ _ _ q => ZN q)) (fun r9 G4 n9 q9 => ?_)
      obtain ⟨rfl, q9n, ⟨s4, x4, h_36, hpd⟩, fr6⟩ := q9
      have q9n := q9n.symm
      subst q9n
      obtain ⟨hx1, hx2, hx3⟩ := hE1 s4 x4 (ldp _ _ _ (by omega) (by omega) hpd)
      have hs4 := ld_lt (ldp _ _ _ (by omega) (by omega) hpd)
      have h_34 := (fr6 34 (by decide)).trans h_34
      have h_35 := (fr6 35 (by decide)).trans h_35
      have hR := hR.fr fr6 (by decide) (by decide)
      have hU := hU.fr fr6 (by decide) (by decide)
      have hB := hB.fr fr6 (by decide) (by decide)
      have hA := hA.fr fr6 (by decide) (by decide)
      have hG := hG.fr fr6 (by decide) (by decide)
      have fr := fr.tr fr6 (by decide)
      refine v_aload_n dX1_loadBounds_102 rfl ?_
      refine v_get fX1_36 dX1_loadBounds_103 h_34 (by decide) rfl ?_
      refine v_aload_n dX1_loadBounds_106 rfl ?_
      refine v_get fX1_16 dX1_loadBounds_107 h_34 (by decide) rfl ?_
      refine v_cS (av := [.ref 45, .ref 36]) (st := []) zyX1_loadUnits lX1_120 (p_loadUnits (d := 2) hG h_36 (by decide) (by omega) (by omega) (by decide) (by omega)) dX1_loadBounds_110 rfl rfl (Nat.le_of_ble_eq_true rfl) (by omega) (Nat.le_of_ble_eq_true rfl) (Nat.le_of_ble_eq_true rfl) (Or.inl (fun _ _ _ q => ZN q)) (fun r9 G5 n9 q9 => ?_)
      obtain ⟨rfl, q9n, hG, fr5⟩ := q9
      have q9n := q9n.symm
      subst q9n
      rw [hx3] at hG
      have h_34 := (fr5 34 (by decide)).trans h_34
      have h_35 := (fr5 35 (by decide)).trans h_35
      have h_36 := (fr5 36 (by decide)).trans h_36
      have hR := hR.fr fr5 (by decide) (by decide)
      have hU := hU.fr fr5 (by decide) (by decide)
      have hB := hB.fr fr5 (by decide) (by decide)
      have hA := hA.fr fr5 (by decide) (by decide)
      have fr := fr.tr fr5 (by decide)
      refine v_aload_n dX1_loadBounds_113 rfl ?_
      refine v_get fX1_30 dX1_loadBounds_114 h_34 (by decide) rfl ?_
      refine v_aload_n dX1_loadBounds_117 rfl ?_
      refine v_get fX1_23 dX1_loadBounds_118 h_34 (by decide) rfl ?_
      obtain ⟨u941, f941, h_41, -⟩ := id hB
      refine v_cV (av := [.ref 37]) (st := []) zyX7_copy lX1_129 h_41 rfl (p_copy (d := 2) hB hR (by decide) (by decide)) dX1_loadBounds_121 rfl rfl (Nat.le_of_ble_eq_true rfl) (by omega) (Nat.le_of_ble_eq_true rfl) (Nat.le_of_ble_eq_true rfl) (Or.inl (fun _ _ _ q => ZN q)) (fun r9 G6 n9 q9 => ?_)
      obtain ⟨rfl, q9n, hB, fr4⟩ := q9
      have q9n := q9n.symm
      subst q9n
      have h_34 := (fr4 34 (by decide)).trans h_34
      have h_35 := (fr4 35 (by decide)).trans h_35
      have h_36 := (fr4 36 (by decide)).trans h_36
      have hR := hR.fr fr4 (by decide) (by decide)
      have hU := hU.fr fr4 (by decide) (by decide)
      have hA := hA.fr fr4 (by decide) (by decide)
      have hG := hG.fr fr4 (by decide) (by decide)
      have fr := fr.tr fr4 (by decide)
      refine v_aload_n dX1_loadBounds_124 rfl ?_
      refine v_get fX1_30 dX1_loadBounds_125 h_34 (by decide) rfl ?_
      refine v_aload_n dX1_loadBounds_128 rfl ?_
      refine v_get fX1_36 dX1_loadBounds_129 h_34 (by decide) rfl ?_
      obtain ⟨u941, f941, h_41, -⟩ := id hB
      refine v_cV (av := [.ref 45]) (st := []) zyX7_lower lX1_133 h_41 rfl (p_lower (d := 2) hB hG (by decide) (by decide) hE2) dX1_loadBounds_132 rfl rfl (Nat.le_of_ble_eq_true rfl) (by omega) (Nat.le_of_ble_eq_true rfl) (Nat.le_of_ble_eq_true rfl) (Or.inl (fun _ _ _ q => ZN q)) (fun r9 G7 n9 q9 => ?_)
      obtain ⟨rfl, q9n, hB, fr3⟩ := q9
      have q9n := q9n.symm
      subst q9n
      have h_34 := (fr3 34 (by decide)).trans h_34
      have h_35 := (fr3 35 (by decide)).trans h_35
      have h_36 := (fr3 36 (by decide)).trans h_36
      have hR := hR.fr fr3 (by decide) (by decide)
      have hU := hU.fr fr3 (by decide) (by decide)
      have hA := hA.fr fr3 (by decide) (by decide)
      have hG := hG.fr fr3 (by decide) (by decide)
      have fr := fr.tr fr3 (by decide)
      exact j135 _ _ _ _ _ _ h_34 h_35 h_36 hR hU (by rw [if_neg c2]; exact hB) hA hG fr
  have j50 : ∀ (H : zH) (b : Bool) (oa1 : Bool), b = oa → H 34 = oPage 35 36 37 39 41 43 45 ob oa1 ev tens (L.length:Nat) → H 35 = aN 160 f → H 36 = oPosit na2 mi2 s2 x2 → H 12 = oPosit na mi (sg:Nat) ex → WD H 37 38 R0 → WD H 39 40 U0 → WD H 41 42 B0 → WD H 43 44 A0 → WD H 45 46 G0 → zFr PGE h H → (zV X (fun r h' n' => r = none ∧ n' = n ∧ PT h' (decide (u = 1)) (decide (u = 2 ^ (w - 1) - 1)) (decide (u % 2 = 0)) tens L ∧ WD h' 37 38 R ∧ WD h' 39 40 (1 * 2 ^ 120) ∧ WD h' 41 42 (if u = 1 then 0 else R - EL) ∧ WD h' 43 44 (if u = 2 ^ (w - 1) - 1 then 0 else EH - R) ∧ (∃ v, WD h' 45 46 v) ∧ (∃ na mi s x, h' 36 = oPosit na mi s x) ∧ zFr PGE h h') cX1_loadBounds 5 RX1 none d 0 0 50 [(0, .ref 34), (1, .ref 12), (2, .long (jL (u:Nat))), (4, .int (iI (w:Nat)))] [.int (iI (bz b)), .ref 34] H n 0 0) := by
    intro H b oa1 hbo h_34 h_35 h_36 h_12 hR hU hB hA hG fr
    refine v_put (fs' := [.ref 35, .ref 36, .ref 37, .ref 39, .ref 41, .ref 43, .ref 45, .int (iI (bz ob)), .int (iI (bz b)), .int (iI (bz ev)), .int (iI tens), .int (iI (L.length:Nat))]) fX1_117 dX1_loadBounds_50 h_34 (by decide) (Nat.le_of_ble_eq_true rfl) bz_n bz_f rfl (fun H1 eH1 => ?_)
    have h_34 : H1 34 = oPage 35 36 37 39 41 43 45 ob b ev tens (L.length:Nat) := zf_same eH1
    have h_35 := (zf_ne eH1 (by decide)).trans h_35
    have h_36 := (zf_ne eH1 (by decide)).trans h_36
    have h_12 := (zf_ne eH1 (by decide)).trans h_12
    have fr := fr.put eH1 (by simp)
    have fz : zFr [34] H H1 := zFr.put zFr.rf eH1 (by simp)
    rw [hbo] at h_34
    exact j53 _ h_34 h_35 h_36 h_12 (hR.fr fz (by decide) (by decide)) (hU.fr fz (by decide) (by decide)) (hB.fr fz (by decide) (by decide)) (hA.fr fz (by decide) (by decide)) (hG.fr fz (by decide) (by decide)) fr
  have j29 : ∀ (H : zH) (b : Bool) (ob1 : Bool), b = ob → H 34 = oPage 35 36 37 39 41 43 45 ob1 oa0 ev tens (L.length:Nat) → H 35 = aN 160 f → H 36 = oPosit na2 mi2 s2 x2 → H 12 = oPosit na mi (sg:Nat) ex → WD H 37 38 R0 → WD H 39 40 U0 → WD H 41 42 B0 → WD H 43 44 A0 → WD H 45 46 G0 → zFr PGE h H → (zV X (fun r h' n' => r = none ∧ n' = n ∧ PT h' (decide (u = 1)) (decide (u = 2 ^ (w - 1) - 1)) (decide (u % 2 = 0)) tens L ∧ WD h' 37 38 R ∧ WD h' 39 40 (1 * 2 ^ 120) ∧ WD h' 41 42 (if u = 1 then 0 else R - EL) ∧ WD h' 43 44 (if u = 2 ^ (w - 1) - 1 then 0 else EH - R) ∧ (∃ v, WD h' 45 46 v) ∧ (∃ na mi s x, h' 36 = oPosit na mi s x) ∧ zFr PGE h h') cX1_loadBounds 5 RX1 none d 0 0 29 [(0, .ref 34), (1, .ref 12), (2, .long (jL (u:Nat))), (4, .int (iI (w:Nat)))] [.int (iI (bz b)), .ref 34] H n 0 0) := by
    intro H b ob1 hbo h_34 h_35 h_36 h_12 hR hU hB hA hG fr
    refine v_put (fs' := [.ref 35, .ref 36, .ref 37, .ref 39, .ref 41, .ref 43, .ref 45, .int (iI (bz b)), .int (iI (bz oa0)), .int (iI (bz ev)), .int (iI tens), .int (iI (L.length:Nat))]) fX1_108 dX1_loadBounds_29 h_34 (by decide) (Nat.le_of_ble_eq_true rfl) bz_n bz_f rfl (fun H1 eH1 => ?_)
    have h_34 : H1 34 = oPage 35 36 37 39 41 43 45 b oa0 ev tens (L.length:Nat) := zf_same eH1
    have h_35 := (zf_ne eH1 (by decide)).trans h_35
    have h_36 := (zf_ne eH1 (by decide)).trans h_36
    have h_12 := (zf_ne eH1 (by decide)).trans h_12
    have fr := fr.put eH1 (by simp)
    refine v_aload_n dX1_loadBounds_32 rfl ?_
    refine v_lload_n dX1_loadBounds_33 rfl ?_
    refine v_iload dX1_loadBounds_34 rfl ?_
    refine v_iconst (iI 1) dX1_loadBounds_36 rfl ?_
    refine w_isub dX1_loadBounds_37 ?_
    have fz : zFr [34] H H1 := zFr.put zFr.rf eH1 (by simp)
    rw [hbo] at h_34
    have k50 := fun b hb => j50 H1 b oa0 hb h_34 h_35 h_36 h_12 (hR.fr fz (by decide) (by decide)) (hU.fr fz (by decide) (by decide)) (hB.fr fz (by decide) (by decide)) (hA.fr fz (by decide) (by decide)) (hG.fr fz (by decide) (by decide)) fr
    refine w_ei (w - 1:Nat) (by omega) ?_
    refine v_cS (av := [.int (iI (w - 1:Nat))]) (st := [.long (jL (u:Nat)), .ref 34]) zyX4_greatest lX1_111 (p_greatest (d := 2) (by omega)) dX1_loadBounds_38 rfl rfl (Nat.le_of_ble_eq_true rfl) (by omega) (Nat.le_of_ble_eq_true rfl) (Nat.le_of_ble_eq_true rfl) (Or.inl (fun _ _ _ q => ZN q)) (fun r9 K1 n9 q9 => ?_)
    obtain ⟨rfl, q9n, q9h⟩ := q9
    have q9n := q9n.symm
    subst q9n
    have q9h := q9h.symm
    subst q9h
    refine w_el (q - 1:Nat) (by rw [eq]) ?_
    refine w_lcmp_ne 49 dX1_loadBounds_41 dX1_loadBounds_42 (by decide) (by omega) (by omega) (fun c1 => ?_) (fun c1 => ?_)
    · skip
      refine v_iconst (iI 0) dX1_loadBounds_49 rfl ?_
      refine w_ei (bz false) rfl ?_
      exact k50 false (by rw [← eoa]; exact (decide_eq_false (by omega)).symm)
    · skip
      refine v_iconst (iI 1) dX1_loadBounds_45 rfl ?_
      refine v_goto 50 dX1_loadBounds_46 (by decide) ?_
      refine w_ei (bz true) rfl ?_
      exact k50 true (by rw [← eoa]; exact (decide_eq_true (by omega)).symm)
  have j14 : ∀ (b : Bool), b = ev → (zV X (fun r h' n' => r = none ∧ n' = n ∧ PT h' (decide (u = 1)) (decide (u = 2 ^ (w - 1) - 1)) (decide (u % 2 = 0)) tens L ∧ WD h' 37 38 R ∧ WD h' 39 40 (1 * 2 ^ 120) ∧ WD h' 41 42 (if u = 1 then 0 else R - EL) ∧ WD h' 43 44 (if u = 2 ^ (w - 1) - 1 then 0 else EH - R) ∧ (∃ v, WD h' 45 46 v) ∧ (∃ na mi s x, h' 36 = oPosit na mi s x) ∧ zFr PGE h h') cX1_loadBounds 5 RX1 none d 0 0 14 [(0, .ref 34), (1, .ref 12), (2, .long (jL (u:Nat))), (4, .int (iI (w:Nat)))] [.int (iI (bz b)), .ref 34] h n 0 0) := by
    intro b hbo
    refine v_put (fs' := [.ref 35, .ref 36, .ref 37, .ref 39, .ref 41, .ref 43, .ref 45, .int (iI (bz ob0)), .int (iI (bz oa0)), .int (iI (bz b)), .int (iI tens), .int (iI (L.length:Nat))]) fX1_105 dX1_loadBounds_14 h_34 (by decide) (Nat.le_of_ble_eq_true rfl) bz_n bz_f rfl (fun H1 eH1 => ?_)
    have h_34 : H1 34 = oPage 35 36 37 39 41 43 45 ob0 oa0 b tens (L.length:Nat) := zf_same eH1
    have h_35 := (zf_ne eH1 (by decide)).trans h_35
    have h_36 := (zf_ne eH1 (by decide)).trans h_36
    have h_12 := (zf_ne eH1 (by decide)).trans h_12
    have fr := fr.put eH1 (by simp)
    refine v_aload_n dX1_loadBounds_17 rfl ?_
    refine v_lload_n dX1_loadBounds_18 rfl ?_
    refine v_lconst (jL 1) dX1_loadBounds_19 rfl ?_
    have fz : zFr [34] h H1 := zFr.put zFr.rf eH1 (by simp)
    rw [hbo] at h_34
    have k29 := fun b hb => j29 H1 b ob0 hb h_34 h_35 h_36 h_12 (hR.fr fz (by decide) (by decide)) (hU.fr fz (by decide) (by decide)) (hB.fr fz (by decide) (by decide)) (hA.fr fz (by decide) (by decide)) (hG.fr fz (by decide) (by decide)) fr
    refine w_lcmp_ne 28 dX1_loadBounds_20 dX1_loadBounds_21 (by decide) (by omega) (by decide) (fun c1 => ?_) (fun c1 => ?_)
    · skip
      refine v_iconst (iI 0) dX1_loadBounds_28 rfl ?_
      refine w_ei (bz false) rfl ?_
      exact k29 false (by rw [← eob]; exact (decide_eq_false (by omega)).symm)
    · skip
      refine v_iconst (iI 1) dX1_loadBounds_24 rfl ?_
      refine v_goto 29 dX1_loadBounds_25 (by decide) ?_
      refine w_ei (bz true) rfl ?_
      exact k29 true (by rw [← eob]; exact (decide_eq_true (by omega)).symm)
  refine v_aload_n dX1_loadBounds_0 rfl ?_
  refine v_lload_n dX1_loadBounds_1 rfl ?_
  refine v_lconst (jL 1) dX1_loadBounds_2 rfl ?_
  refine w_landm dX1_loadBounds_3 1 2 rfl (by decide) rfl ?_
  refine v_lconst (jL 0) dX1_loadBounds_4 rfl ?_
  refine w_lcmp_ne 13 dX1_loadBounds_5 dX1_loadBounds_6 (by decide) (by omega) (by decide) (fun c1 => ?_) (fun c1 => ?_)
  · skip
    refine v_iconst (iI 0) dX1_loadBounds_13 rfl ?_
    refine w_ei (bz false) rfl ?_
    exact j14 false (by rw [← eev]; exact (decide_eq_false (by omega)).symm)
  · skip
    refine v_iconst (iI 1) dX1_loadBounds_9 rfl ?_
    refine v_goto 14 dX1_loadBounds_10 (by decide) ?_
    refine w_ei (bz true) rfl ?_
    exact j14 true (by rw [← eev]; exact (decide_eq_true (by omega)).symm)
