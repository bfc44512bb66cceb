/-! The page: the next digit, and the whole of the shortest decimal -/
theorem sCh_lt {ob oa ev fi : Bool} {U R B A : Nat} (hR : R < U * 10) : sCh ob oa ev fi U R B A < 256 := by
  have hq : R / U < 10 := Nat.div_lt_of_lt_mul hR
  unfold sCh
  cases sRoll ob oa ev fi U R B A <;> cases sUp ob oa ev U R B A <;> simp <;> omega
set_option maxHeartbeats 8000000 in
set_option maxRecDepth 100000 in
theorem p_putDigit {d n R U B A G0 : Nat} {ob oa ev fi : Bool} {tens : Int} {L : List Nat} {h : zH} (hp : PT h ob oa ev tens L) (hR : WD h 37 38 R) (hU : WD h 39 40 U) (hB : WD h 41 42 B) (hA : WD h 43 44 A) (hG : WD h 45 46 G0) (hd : 3 ≤ d) (hU0 : 0 < U) (hRU : R < U * 10) (hL : L.length < 150) (ht : -1000 ≤ tens ∧ tens ≤ 1000) :
    zM yX1_putDigit cX1_putDigit 6 (some .boolean) d 0 0 [.ref 34, .int (iI (bz fi))] h n (fun r h' n' => r = some (.int (iI (bz (sStop ob oa ev U R B A)))) ∧ n' = n ∧ PT h' ob oa ev (cond (sRoll ob oa ev fi U R B A) (tens + 1) tens) (L ++ [sCh ob oa ev fi U R B A]) ∧ WD h' 37 38 (R % U) ∧ WD h' 39 40 U ∧ WD h' 41 42 B ∧ WD h' 43 44 A ∧ (∃ v, WD h' 45 46 v) ∧ zFr (35 :: PGS) h h') := by
  obtain ⟨q, eq⟩ : ∃ q, R / U = q := ⟨_, rfl⟩
  obtain ⟨R', eR⟩ : ∃ R', R % U = R' := ⟨_, rfl⟩
  have hq : q < 10 := by rw [← eq]; exact Nat.div_lt_of_lt_mul hRU
  have hR' : R' < U := by rw [← eR]; exact Nat.mod_lt _ hU0
  have eRq : R = q * U + R' := by rw [← eq, ← eR, Nat.mul_comm]; exact (Nat.div_add_mod R U).symm
  obtain ⟨dn, edn⟩ : ∃ dn, sDn ob ev U R B = dn := ⟨_, rfl⟩
  obtain ⟨uf, euf⟩ : ∃ uf, sUf oa ev U R A = uf := ⟨_, rfl⟩
  obtain ⟨up, eup⟩ : ∃ up, sUp ob oa ev U R B A = up := ⟨_, rfl⟩
  obtain ⟨ro, ero⟩ : ∃ ro, sRoll ob oa ev fi U R B A = ro := ⟨_, rfl⟩
  obtain ⟨f, h_34, h_35, hb, htx, hl⟩ := id hp
  refine zM_of zyX1_putDigit rfl (Nat.le_of_ble_eq_true rfl) (fun X hX => ?_)
  have fr : zFr (35 :: PGS) h h := zFr.rf
  have j199 : ∀ (H : zH), PT H ob oa ev (cond ro (tens + 1) tens) (L ++ [sCh ob oa ev fi U R B A]) → WD H 37 38 R' → WD H 39 40 U → WD H 41 42 B → WD H 43 44 A → (∃ v, WD H 45 46 v) → zFr (35 :: PGS) h H → (zV X (fun r h' n' => r = some (.int (iI (bz (sStop ob oa ev U R B A)))) ∧ n' = n ∧ PT h' ob oa ev (cond (sRoll ob oa ev fi U R B A) (tens + 1) tens) (L ++ [sCh ob oa ev fi U R B A]) ∧ WD h' 37 38 (R % U) ∧ WD h' 39 40 U ∧ WD h' 41 42 B ∧ WD h' 43 44 A ∧ (∃ v, WD h' 45 46 v) ∧ zFr (35 :: PGS) h h') cX1_putDigit 6 RX1 (some .boolean) d 0 0 199 [(0, .ref 34), (3, .int (iI (bz dn))), (4, .int (iI (bz uf)))] [] H n 0 0) := by
    intro H hp hR hU hB hA hG fr
    have es : sStop ob oa ev U R B A = (dn || uf) := by unfold sStop; rw [edn, euf]
    rw [es, ero, eR]
    refine v_iload_n dX1_putDigit_199 rfl ?_
    refine w_ifb_ne 208 dX1_putDigit_200 (by decide) (fun c1 => ?_) (fun c1 => ?_)
    · skip
      refine v_iconst (iI 1) dX1_putDigit_208 rfl ?_
      refine v_goto 213 dX1_putDigit_209 (by decide) ?_
      refine w_ei (bz true) rfl ?_
      exact v_iret dX1_putDigit_213 bz_ret (Nat.le_of_ble_eq_true rfl) (Nat.le_of_ble_eq_true rfl) ⟨by rw [c1]; rfl, rfl, hp, hR, hU, hB, hA, hG, fr⟩
    · skip
      refine v_iload dX1_putDigit_203 rfl ?_
      refine w_ifb_eq 212 dX1_putDigit_205 (by decide) (fun c2 => ?_) (fun c2 => ?_)
      · skip
        refine v_iconst (iI 0) dX1_putDigit_212 rfl ?_
        refine w_ei (bz false) rfl ?_
        exact v_iret dX1_putDigit_213 bz_ret (Nat.le_of_ble_eq_true rfl) (Nat.le_of_ble_eq_true rfl) ⟨by rw [c1, c2]; rfl, rfl, hp, hR, hU, hB, hA, hG, fr⟩
      · skip
        refine v_iconst (iI 1) dX1_putDigit_208 rfl ?_
        refine v_goto 213 dX1_putDigit_209 (by decide) ?_
        refine w_ei (bz true) rfl ?_
        exact v_iret dX1_putDigit_213 bz_ret (Nat.le_of_ble_eq_true rfl) (Nat.le_of_ble_eq_true rfl) ⟨by rw [c1, c2]; rfl, rfl, hp, hR, hU, hB, hA, hG, fr⟩
  have j180 : ∀ (H : zH) (dg : Nat), dg = cond ro 0 q → PT H ob oa ev (cond ro (tens + 1) tens) L → WD H 37 38 R' → WD H 39 40 U → WD H 41 42 B → WD H 43 44 A → (∃ v, WD H 45 46 v) → zFr (35 :: PGS) h H → (zV X (fun r h' n' => r = some (.int (iI (bz (sStop ob oa ev U R B A)))) ∧ n' = n ∧ PT h' ob oa ev (cond (sRoll ob oa ev fi U R B A) (tens + 1) tens) (L ++ [sCh ob oa ev fi U R B A]) ∧ WD h' 37 38 (R % U) ∧ WD h' 39 40 U ∧ WD h' 41 42 B ∧ WD h' 43 44 A ∧ (∃ v, WD h' 45 46 v) ∧ zFr (35 :: PGS) h h') cX1_putDigit 6 RX1 (some .boolean) d 0 0 180 [(0, .ref 34), (1, .int (iI (bz fi))), (2, .int (iI (dg:Nat))), (3, .int (iI (bz dn))), (4, .int (iI (bz uf))), (5, .int (iI (bz up)))] [] H n 0 0) := by
    intro H dg hdg hp hR hU hB hA hG fr
    obtain ⟨gv, hG⟩ := hG
    obtain ⟨f, h_34, -⟩ := id hp
    have hch := sCh_lt (ob := ob) (oa := oa) (ev := ev) (fi := fi) (U := U) (R := R) (B := B) (A := A) hRU
    have ech : sCh ob oa ev fi U R B A = 48 + dg + cond up 1 0 := by unfold sCh; rw [ero, eup, eq, hdg]
    have hdg9 : dg < 10 := by rw [hdg]; cases ro <;> simp <;> omega
    have ap : (zV X (fun r h' n' => r = some (.int (iI (bz (sStop ob oa ev U R B A)))) ∧ n' = n ∧ PT h' ob oa ev (cond (sRoll ob oa ev fi U R B A) (tens + 1) tens) (L ++ [sCh ob oa ev fi U R B A]) ∧ WD h' 37 38 (R % U) ∧ WD h' 39 40 U ∧ WD h' 41 42 B ∧ WD h' 43 44 A ∧ (∃ v, WD h' 45 46 v) ∧ zFr (35 :: PGS) h h') cX1_putDigit 6 RX1 (some .boolean) d 0 0 196 [(0, .ref 34), (1, .int (iI (bz fi))), (2, .int (iI (dg:Nat))), (3, .int (iI (bz dn))), (4, .int (iI (bz uf))), (5, .int (iI (bz up)))] [.int (iI (sCh ob oa ev fi U R B A:Nat)), .ref 34] H n 0 0) := by
      refine v_cV (av := [.int (iI (sCh ob oa ev fi U R B A:Nat))]) (st := []) zyX1_append lX1_43 h_34 rfl (p_pappend (d := 2) hp (by omega) hch) dX1_putDigit_196 rfl rfl (Nat.le_of_ble_eq_true rfl) (by omega) (Nat.le_of_ble_eq_true rfl) (Nat.le_of_ble_eq_true rfl) (Or.inl (fun _ _ _ q => ZN q)) (fun r9 G1 n9 q9 => ?_)
      obtain ⟨rfl, q9n, hp, fr9⟩ := q9
      have q9n := q9n.symm
      subst q9n
      refine w_sub (lv2 := [(0, .ref 34), (3, .int (iI (bz dn))), (4, .int (iI (bz uf)))]) [0, 3, 4] rfl ?_
      exact j199 _ hp (hR.fr fr9 (by decide) (by decide)) (hU.fr fr9 (by decide) (by decide)) (hB.fr fr9 (by decide) (by decide)) (hA.fr fr9 (by decide) (by decide)) ⟨_, hG.fr fr9 (by decide) (by decide)⟩ (fr.tr fr9 (by decide))
    refine v_aload_n dX1_putDigit_180 rfl ?_
    refine v_bipush (iI 48) dX1_putDigit_181 rfl ?_
    refine v_iload_n dX1_putDigit_183 rfl ?_
    refine w_iadd dX1_putDigit_184 ?_
    refine v_iload dX1_putDigit_185 rfl ?_
    refine w_ifb_eq 194 dX1_putDigit_187 (by decide) (fun c1 => ?_) (fun c1 => ?_)
    · skip
      refine v_iconst (iI 0) dX1_putDigit_194 rfl ?_
      refine w_iadd dX1_putDigit_195 ?_
      refine w_ei (sCh ob oa ev fi U R B A:Nat) (by rw [ech, c1]; simp) ?_
      exact ap
    · skip
      refine v_iconst (iI 1) dX1_putDigit_190 rfl ?_
      refine v_goto 195 dX1_putDigit_191 (by decide) ?_
      refine w_iadd dX1_putDigit_195 ?_
      refine w_ei (sCh ob oa ev fi U R B A:Nat) (by rw [ech, c1]; simp) ?_
      exact ap
  have k151 : ∀ (H : zH) (b : Bool), b = up → PT H ob oa ev tens L → WD H 37 38 R' → WD H 39 40 U → WD H 41 42 B → WD H 43 44 A → WD H 45 46 (U - R') → zFr (35 :: PGS) h H → (zV X (fun r h' n' => r = some (.int (iI (bz (sStop ob oa ev U R B A)))) ∧ n' = n ∧ PT h' ob oa ev (cond (sRoll ob oa ev fi U R B A) (tens + 1) tens) (L ++ [sCh ob oa ev fi U R B A]) ∧ WD h' 37 38 (R % U) ∧ WD h' 39 40 U ∧ WD h' 41 42 B ∧ WD h' 43 44 A ∧ (∃ v, WD h' 45 46 v) ∧ zFr (35 :: PGS) h h') cX1_putDigit 6 RX1 (some .boolean) d 0 0 151 [(0, .ref 34), (1, .int (iI (bz fi))), (2, .int (iI (q:Nat))), (3, .int (iI (bz dn))), (4, .int (iI (bz uf)))] [.int (iI (bz b))] H n 0 0) := by
    intro H b hbu hp hR hU hB hA hG fr
    subst hbu
    obtain ⟨f, h_34, h_35, hb, htx, hl⟩ := id hp
    have noro : ro = false → (zV X (fun r h' n' => r = some (.int (iI (bz (sStop ob oa ev U R B A)))) ∧ n' = n ∧ PT h' ob oa ev (cond (sRoll ob oa ev fi U R B A) (tens + 1) tens) (L ++ [sCh ob oa ev fi U R B A]) ∧ WD h' 37 38 (R % U) ∧ WD h' 39 40 U ∧ WD h' 41 42 B ∧ WD h' 43 44 A ∧ (∃ v, WD h' 45 46 v) ∧ zFr (35 :: PGS) h h') cX1_putDigit 6 RX1 (some .boolean) d 0 0 180 [(0, .ref 34), (1, .int (iI (bz fi))), (2, .int (iI (q:Nat))), (3, .int (iI (bz dn))), (4, .int (iI (bz uf))), (5, .int (iI (bz b)))] [] H n 0 0) := by
      intro z
      exact j180 _ q (by rw [z]; rfl) (by rw [z, cond_false]; exact hp) hR hU hB hA ⟨_, hG⟩ fr
    have er : ro = (b && (fi && decide (q = 9))) := by rw [← ero]; unfold sRoll; rw [eup, eq]
    refine v_istore (i := 5) (lv' := [(5, .int (iI (bz b))), (0, .ref 34), (1, .int (iI (bz fi))), (2, .int (iI (q:Nat))), (3, .int (iI (bz dn))), (4, .int (iI (bz uf)))]) dX1_putDigit_151 (by decide) rfl ?_
    refine v_iload dX1_putDigit_153 rfl ?_
    refine w_ifb_eq 180 dX1_putDigit_155 (by decide) (fun c1 => ?_) (fun c1 => ?_)
    · skip
      refine w_sub (lv2 := [(0, .ref 34), (1, .int (iI (bz fi))), (2, .int (iI (q:Nat))), (3, .int (iI (bz dn))), (4, .int (iI (bz uf))), (5, .int (iI (bz b)))]) [1, 2, 3, 4, 5, 0] rfl ?_
      exact noro (by rw [er, c1]; rfl)
    · skip
      refine v_iload_n dX1_putDigit_158 rfl ?_
      refine w_ifb_eq 180 dX1_putDigit_159 (by decide) (fun c2 => ?_) (fun c2 => ?_)
      · skip
        refine w_sub (lv2 := [(0, .ref 34), (1, .int (iI (bz fi))), (2, .int (iI (q:Nat))), (3, .int (iI (bz dn))), (4, .int (iI (bz uf))), (5, .int (iI (bz b)))]) [1, 2, 3, 4, 5, 0] rfl ?_
        exact noro (by rw [er, c1, c2]; rfl)
      · skip
        refine v_iload_n dX1_putDigit_162 rfl ?_
        refine v_bipush (iI 9) dX1_putDigit_163 rfl ?_
        refine w_icmp_ne 180 dX1_putDigit_165 (by decide) (by omega) (by decide) (fun c3 => ?_) (fun c3 => ?_)
        · skip
          refine w_sub (lv2 := [(0, .ref 34), (1, .int (iI (bz fi))), (2, .int (iI (q:Nat))), (3, .int (iI (bz dn))), (4, .int (iI (bz uf))), (5, .int (iI (bz b)))]) [1, 2, 3, 4, 5, 0] rfl ?_
          exact noro (by rw [er, c1, c2, decide_eq_false (by omega)]; rfl)
        · have ero1 : ro = true := by rw [er, c1, c2, decide_eq_true (by omega)]; rfl
          refine v_aload_n dX1_putDigit_168 rfl ?_
          refine v_dup dX1_putDigit_169 rfl ?_
          refine v_get fX1_136 dX1_putDigit_170 h_34 (by decide) rfl ?_
          refine v_iconst (iI 1) dX1_putDigit_173 rfl ?_
          refine w_iadd dX1_putDigit_174 ?_
          refine v_put (fs' := [.ref 35, .ref 36, .ref 37, .ref 39, .ref 41, .ref 43, .ref 45, .int (iI (bz ob)), .int (iI (bz oa)), .int (iI (bz ev)), .int (iI (tens + 1)), .int (iI (L.length:Nat))]) fX1_136 dX1_putDigit_175 h_34 (by decide) (Nat.le_of_ble_eq_true rfl) rfl rfl rfl (fun H1 eH1 => ?_)
          have h_34 : H1 34 = oPage 35 36 37 39 41 43 45 ob oa ev (tens + 1) (L.length:Nat) := zf_same eH1
          have h_35 := (zf_ne eH1 (by decide)).trans h_35
          have fr := fr.put eH1 (by simp)
          refine v_iconst (iI 0) dX1_putDigit_178 rfl ?_
          refine v_istore_n (i := 2) (lv' := [(2, .int (iI 0)), (5, .int (iI (bz b))), (0, .ref 34), (1, .int (iI (bz fi))), (3, .int (iI (bz dn))), (4, .int (iI (bz uf)))]) dX1_putDigit_179 rfl (by decide) rfl ?_
          refine w_sub (lv2 := [(0, .ref 34), (1, .int (iI (bz fi))), (2, .int (iI 0)), (3, .int (iI (bz dn))), (4, .int (iI (bz uf))), (5, .int (iI (bz b)))]) [2, 3, 0, 4, 5, 1] rfl ?_
          have fz : zFr [34] H H1 := zFr.put zFr.rf eH1 (by simp)
          exact j180 _ 0 (by rw [ero1]; rfl) (by rw [ero1, cond_true]; exact ⟨f, h_34, h_35, hb, htx, hl⟩) (hR.fr fz (by decide) (by decide)) (hU.fr fz (by decide) (by decide)) (hB.fr fz (by decide) (by decide)) (hA.fr fz (by decide) (by decide)) ⟨_, hG.fr fz (by decide) (by decide)⟩ fr
  have k121 : ∀ (H : zH) (b : Bool), b = uf → PT H ob oa ev tens L → WD H 37 38 R' → WD H 39 40 U → WD H 41 42 B → WD H 43 44 A → WD H 45 46 (U - R') → zFr (35 :: PGS) h H → (zV X (fun r h' n' => r = some (.int (iI (bz (sStop ob oa ev U R B A)))) ∧ n' = n ∧ PT h' ob oa ev (cond (sRoll ob oa ev fi U R B A) (tens + 1) tens) (L ++ [sCh ob oa ev fi U R B A]) ∧ WD h' 37 38 (R % U) ∧ WD h' 39 40 U ∧ WD h' 41 42 B ∧ WD h' 43 44 A ∧ (∃ v, WD h' 45 46 v) ∧ zFr (35 :: PGS) h h') cX1_putDigit 6 RX1 (some .boolean) d 0 0 121 [(0, .ref 34), (1, .int (iI (bz fi))), (2, .int (iI (q:Nat))), (3, .int (iI (bz dn)))] [.int (iI (bz b))] H n 0 0) := by
    intro H b hbu hp hR hU hB hA hG fr
    subst hbu
    obtain ⟨f, h_34, h_35, -⟩ := id hp
    have eu2 : up = (b && (!dn || decide (U - R' < R'))) := by rw [← eup]; unfold sUp; rw [euf, edn, eR]
    refine v_istore (i := 4) (lv' := [(4, .int (iI (bz b))), (0, .ref 34), (1, .int (iI (bz fi))), (2, .int (iI (q:Nat))), (3, .int (iI (bz dn)))]) dX1_putDigit_121 (by decide) rfl ?_
    refine v_iload dX1_putDigit_123 rfl ?_
    refine w_ifb_eq 150 dX1_putDigit_125 (by decide) (fun c1 => ?_) (fun c1 => ?_)
    · skip
      refine v_iconst (iI 0) dX1_putDigit_150 rfl ?_
      refine w_ei (bz false) rfl ?_
      refine w_sub (lv2 := [(0, .ref 34), (1, .int (iI (bz fi))), (2, .int (iI (q:Nat))), (3, .int (iI (bz dn))), (4, .int (iI (bz b)))]) [1, 2, 3, 4, 0] rfl ?_
      exact k151 _ false (by rw [eu2, c1]; rfl) hp hR hU hB hA hG fr
    · skip
      refine v_iload_n dX1_putDigit_128 rfl ?_
      refine w_ifb_eq 146 dX1_putDigit_129 (by decide) (fun c2 => ?_) (fun c2 => ?_)
      · skip
        refine v_iconst (iI 1) dX1_putDigit_146 rfl ?_
        refine v_goto 151 dX1_putDigit_147 (by decide) ?_
        refine w_ei (bz true) rfl ?_
        refine w_sub (lv2 := [(0, .ref 34), (1, .int (iI (bz fi))), (2, .int (iI (q:Nat))), (3, .int (iI (bz dn))), (4, .int (iI (bz b)))]) [1, 2, 3, 4, 0] rfl ?_
        exact k151 _ true (by rw [eu2, c1, c2]; rfl) hp hR hU hB hA hG fr
      · skip
        refine v_aload_n dX1_putDigit_132 rfl ?_
        refine v_get fX1_36 dX1_putDigit_133 h_34 (by decide) rfl ?_
        refine v_aload_n dX1_putDigit_136 rfl ?_
        refine v_get fX1_23 dX1_putDigit_137 h_34 (by decide) rfl ?_
        obtain ⟨u945, f945, h_45, -⟩ := id hG
        have hcr := cmpz_r (U - R') R'
        refine v_cV (av := [.ref 37]) (st := []) zyX7_against lX1_145 h_45 rfl (p_against (d := 2) hG hR) dX1_putDigit_140 rfl rfl (Nat.le_of_ble_eq_true rfl) (by omega) (Nat.le_of_ble_eq_true rfl) (Nat.le_of_ble_eq_true rfl) (Or.inl (fun _ _ _ q => ZN q)) (fun r9 K1 n9 q9 => ?_)
        obtain ⟨rfl, q9n, q9h⟩ := q9
        have q9n := q9n.symm
        subst q9n
        have q9h := q9h.symm
        subst q9h
        refine w_if_ge 150 dX1_putDigit_143 (by decide) (by omega) (fun c3 => ?_) (fun c3 => ?_)
        · have c4 : ¬ U - R' < R' := fun z => by have := cmpz_lt.mpr z; omega
          refine v_iconst (iI 0) dX1_putDigit_150 rfl ?_
          refine w_ei (bz false) rfl ?_
          refine w_sub (lv2 := [(0, .ref 34), (1, .int (iI (bz fi))), (2, .int (iI (q:Nat))), (3, .int (iI (bz dn))), (4, .int (iI (bz b)))]) [1, 2, 3, 4, 0] rfl ?_
          exact k151 _ false (by rw [eu2, c1, c2, decide_eq_false c4]; rfl) hp hR hU hB hA hG fr
        · have c4 : U - R' < R' := cmpz_lt.mp (show cmpz (U - R') R' < 0 by omega)
          refine v_iconst (iI 1) dX1_putDigit_146 rfl ?_
          refine v_goto 151 dX1_putDigit_147 (by decide) ?_
          refine w_ei (bz true) rfl ?_
          refine w_sub (lv2 := [(0, .ref 34), (1, .int (iI (bz fi))), (2, .int (iI (q:Nat))), (3, .int (iI (bz dn))), (4, .int (iI (bz b)))]) [1, 2, 3, 4, 0] rfl ?_
          exact k151 _ true (by rw [eu2, c1, c2, decide_eq_true c4]; rfl) hp hR hU hB hA hG fr
  have k93 : ∀ (H : zH) (b : Bool), b = dn → PT H ob oa ev tens L → WD H 37 38 R' → WD H 39 40 U → WD H 41 42 B → WD H 43 44 A → WD H 45 46 (U - R') → zFr (35 :: PGS) h H → (zV X (fun r h' n' => r = some (.int (iI (bz (sStop ob oa ev U R B A)))) ∧ n' = n ∧ PT h' ob oa ev (cond (sRoll ob oa ev fi U R B A) (tens + 1) tens) (L ++ [sCh ob oa ev fi U R B A]) ∧ WD h' 37 38 (R % U) ∧ WD h' 39 40 U ∧ WD h' 41 42 B ∧ WD h' 43 44 A ∧ (∃ v, WD h' 45 46 v) ∧ zFr (35 :: PGS) h h') cX1_putDigit 6 RX1 (some .boolean) d 0 0 93 [(0, .ref 34), (1, .int (iI (bz fi))), (2, .int (iI (q:Nat)))] [.int (iI (bz b))] H n 0 0) := by
    intro H b hbu hp hR hU hB hA hG fr
    subst hbu
    obtain ⟨f, h_34, h_35, -⟩ := id hp
    have eu2 : uf = (oa || fit (U - R') A ev) := by rw [← euf]; unfold sUf; rw [eR]
    refine v_istore_n (i := 3) (lv' := [(3, .int (iI (bz b))), (0, .ref 34), (1, .int (iI (bz fi))), (2, .int (iI (q:Nat)))]) dX1_putDigit_93 rfl (by decide) rfl ?_
    refine v_aload_n dX1_putDigit_94 rfl ?_
    refine v_get fX1_117 dX1_putDigit_95 h_34 (by decide) rfl ?_
    refine w_ifb_ne 116 dX1_putDigit_98 (by decide) (fun c1 => ?_) (fun c1 => ?_)
    · skip
      refine v_iconst (iI 1) dX1_putDigit_116 rfl ?_
      refine v_goto 121 dX1_putDigit_117 (by decide) ?_
      refine w_ei (bz true) rfl ?_
      refine w_sub (lv2 := [(0, .ref 34), (1, .int (iI (bz fi))), (2, .int (iI (q:Nat))), (3, .int (iI (bz b)))]) [1, 2, 3, 0] rfl ?_
      exact k121 _ true (by rw [eu2, c1]; rfl) hp hR hU hB hA hG fr
    · skip
      refine v_aload_n dX1_putDigit_101 rfl ?_
      refine v_aload_n dX1_putDigit_102 rfl ?_
      refine v_get fX1_36 dX1_putDigit_103 h_34 (by decide) rfl ?_
      refine v_aload_n dX1_putDigit_106 rfl ?_
      refine v_get fX1_33 dX1_putDigit_107 h_34 (by decide) rfl ?_
      refine v_cV (av := [.ref 45, .ref 43]) (st := []) zyX1_fits lX1_149 h_34 rfl (p_fits (d := 2) h_34 hG hA (by decide)) dX1_putDigit_110 rfl rfl (Nat.le_of_ble_eq_true rfl) (by omega) (Nat.le_of_ble_eq_true rfl) (Nat.le_of_ble_eq_true rfl) (Or.inl (fun _ _ _ q => ZN q)) (fun r9 K1 n9 q9 => ?_)
      obtain ⟨rfl, q9n, q9h⟩ := q9
      have q9n := q9n.symm
      subst q9n
      have q9h := q9h.symm
      subst q9h
      refine w_ifb_eq 120 dX1_putDigit_113 (by decide) (fun c2 => ?_) (fun c2 => ?_)
      · skip
        refine v_iconst (iI 0) dX1_putDigit_120 rfl ?_
        refine w_ei (bz false) rfl ?_
        refine w_sub (lv2 := [(0, .ref 34), (1, .int (iI (bz fi))), (2, .int (iI (q:Nat))), (3, .int (iI (bz b)))]) [1, 2, 3, 0] rfl ?_
        exact k121 _ false (by rw [eu2, c1, c2]; rfl) hp hR hU hB hA hG fr
      · skip
        refine v_iconst (iI 1) dX1_putDigit_116 rfl ?_
        refine v_goto 121 dX1_putDigit_117 (by decide) ?_
        refine w_ei (bz true) rfl ?_
        refine w_sub (lv2 := [(0, .ref 34), (1, .int (iI (bz fi))), (2, .int (iI (q:Nat))), (3, .int (iI (bz b)))]) [1, 2, 3, 0] rfl ?_
        exact k121 _ true (by rw [eu2, c1, c2]; rfl) hp hR hU hB hA hG fr
  have k44 : ∀ (H : zH) (y : Int), PT H ob oa ev tens L → WD H 37 38 R' → WD H 39 40 U → WD H 41 42 B → WD H 43 44 A → WD H 45 46 G0 → zFr (35 :: PGS) h H → (zV X (fun r h' n' => r = some (.int (iI (bz (sStop ob oa ev U R B A)))) ∧ n' = n ∧ PT h' ob oa ev (cond (sRoll ob oa ev fi U R B A) (tens + 1) tens) (L ++ [sCh ob oa ev fi U R B A]) ∧ WD h' 37 38 (R % U) ∧ WD h' 39 40 U ∧ WD h' 41 42 B ∧ WD h' 43 44 A ∧ (∃ v, WD h' 45 46 v) ∧ zFr (35 :: PGS) h h') cX1_putDigit 6 RX1 (some .boolean) d 0 0 44 [(0, .ref 34), (1, .int (iI (bz fi))), (2, .int (iI (q:Nat))), (3, .int (iI y))] [] H n 0 0) := by
    intro H y hp hR hU hB hA hG fr
    obtain ⟨f, h_34, h_35, -⟩ := id hp
    have ed2 : dn = (ob || fit R' B ev) := by rw [← edn]; unfold sDn; rw [eR]
    refine v_aload_n dX1_putDigit_44 rfl ?_
    refine v_get fX1_36 dX1_putDigit_45 h_34 (by decide) rfl ?_
    refine v_aload_n dX1_putDigit_48 rfl ?_
    refine v_get fX1_27 dX1_putDigit_49 h_34 (by decide) rfl ?_
    obtain ⟨u945, f945, h_45, -⟩ := id hG
    refine v_cV (av := [.ref 39]) (st := []) zyX7_copy lX1_129 h_45 rfl (p_copy (d := 2) hG hU (by decide) (by decide)) dX1_putDigit_52 rfl rfl (Nat.le_of_ble_eq_true rfl) (by omega) (Nat.le_of_ble_eq_true rfl) (Nat.le_of_ble_eq_true rfl) (Or.inl (fun _ _ _ q => ZN q)) (fun r9 G1 n9 q9 => ?_)
    obtain ⟨rfl, q9n, hG, fr9⟩ := q9
    have q9n := q9n.symm
    subst q9n
    have hp := hp.fr fr9 (by decide) (by decide)
    have h_34 := (fr9 34 (by decide)).trans h_34
    have hR := hR.fr fr9 (by decide) (by decide)
    have hU := hU.fr fr9 (by decide) (by decide)
    have hB := hB.fr fr9 (by decide) (by decide)
    have hA := hA.fr fr9 (by decide) (by decide)
    have fr := fr.tr fr9 (by decide)
    refine v_aload_n dX1_putDigit_55 rfl ?_
    refine v_get fX1_36 dX1_putDigit_56 h_34 (by decide) rfl ?_
    refine v_aload_n dX1_putDigit_59 rfl ?_
    refine v_get fX1_23 dX1_putDigit_60 h_34 (by decide) rfl ?_
    obtain ⟨u945, f945, h_45, -⟩ := id hG
    refine v_cV (av := [.ref 37]) (st := []) zyX7_lower lX1_133 h_45 rfl (p_lower (d := 2) hG hR (by decide) (by decide) (by omega)) dX1_putDigit_63 rfl rfl (Nat.le_of_ble_eq_true rfl) (by omega) (Nat.le_of_ble_eq_true rfl) (Nat.le_of_ble_eq_true rfl) (Or.inl (fun _ _ _ q => ZN q)) (fun r9 G2 n9 q9 => ?_)
    obtain ⟨rfl, q9n, hG, fr8⟩ := q9
    have q9n := q9n.symm
    subst q9n
    have hp := hp.fr fr8 (by decide) (by decide)
    have h_34 := (fr8 34 (by decide)).trans h_34
    have hR := hR.fr fr8 (by decide) (by decide)
    have hU := hU.fr fr8 (by decide) (by decide)
    have hB := hB.fr fr8 (by decide) (by decide)
    have hA := hA.fr fr8 (by decide) (by decide)
    have fr := fr.tr fr8 (by decide)
    refine v_aload_n dX1_putDigit_66 rfl ?_
    refine v_get fX1_108 dX1_putDigit_67 h_34 (by decide) rfl ?_
    refine w_ifb_ne 88 dX1_putDigit_70 (by decide) (fun c1 => ?_) (fun c1 => ?_)
    · skip
      refine v_iconst (iI 1) dX1_putDigit_88 rfl ?_
      refine v_goto 93 dX1_putDigit_89 (by decide) ?_
      refine w_ei (bz true) rfl ?_
      refine w_sub (lv2 := [(0, .ref 34), (1, .int (iI (bz fi))), (2, .int (iI (q:Nat)))]) [0, 1, 2] rfl ?_
      exact k93 _ true (by rw [ed2, c1]; rfl) hp hR hU hB hA hG fr
    · skip
      refine v_aload_n dX1_putDigit_73 rfl ?_
      refine v_aload_n dX1_putDigit_74 rfl ?_
      refine v_get fX1_23 dX1_putDigit_75 h_34 (by decide) rfl ?_
      refine v_aload_n dX1_putDigit_78 rfl ?_
      refine v_get fX1_30 dX1_putDigit_79 h_34 (by decide) rfl ?_
      refine v_cV (av := [.ref 37, .ref 41]) (st := []) zyX1_fits lX1_149 h_34 rfl (p_fits (d := 2) h_34 hR hB (by decide)) dX1_putDigit_82 rfl rfl (Nat.le_of_ble_eq_true rfl) (by omega) (Nat.le_of_ble_eq_true rfl) (Nat.le_of_ble_eq_true rfl) (Or.inl (fun _ _ _ q => ZN q)) (fun r9 K1 n9 q9 => ?_)
      obtain ⟨rfl, q9n, q9h⟩ := q9
      have q9n := q9n.symm
      subst q9n
      have q9h := q9h.symm
      subst q9h
      refine w_ifb_eq 92 dX1_putDigit_85 (by decide) (fun c2 => ?_) (fun c2 => ?_)
      · skip
        refine v_iconst (iI 0) dX1_putDigit_92 rfl ?_
        refine w_ei (bz false) rfl ?_
        refine w_sub (lv2 := [(0, .ref 34), (1, .int (iI (bz fi))), (2, .int (iI (q:Nat)))]) [0, 1, 2] rfl ?_
        exact k93 _ false (by rw [ed2, c1, c2]; rfl) hp hR hU hB hA hG fr
      · skip
        refine v_iconst (iI 1) dX1_putDigit_88 rfl ?_
        refine v_goto 93 dX1_putDigit_89 (by decide) ?_
        refine w_ei (bz true) rfl ?_
        refine w_sub (lv2 := [(0, .ref 34), (1, .int (iI (bz fi))), (2, .int (iI (q:Nat)))]) [0, 1, 2] rfl ?_
        exact k93 _ true (by rw [ed2, c1, c2]; rfl) hp hR hU hB hA hG fr
  have loop : ∀ (m i : Nat) (y z : Int) (H : zH), i + m = q → y = i → z = i → PT H ob oa ev tens L → WD H 37 38 (m * U + R') → WD H 39 40 U → WD H 41 42 B → WD H 43 44 A → WD H 45 46 G0 → zFr (35 :: PGS) h H → (zV X (fun r h' n' => r = some (.int (iI (bz (sStop ob oa ev U R B A)))) ∧ n' = n ∧ PT h' ob oa ev (cond (sRoll ob oa ev fi U R B A) (tens + 1) tens) (L ++ [sCh ob oa ev fi U R B A]) ∧ WD h' 37 38 (R % U) ∧ WD h' 39 40 U ∧ WD h' 41 42 B ∧ WD h' 43 44 A ∧ (∃ v, WD h' 45 46 v) ∧ zFr (35 :: PGS) h h') cX1_putDigit 6 RX1 (some .boolean) d 0 0 4 [(0, .ref 34), (1, .int (iI (bz fi))), (2, .int (iI z)), (3, .int (iI y))] [] H n 0 0) := by
    intro m
    induction m with
    | zero =>
      intro i y z H hi ey ez hp hR hU hB hA hG fr
      rw [Nat.zero_mul, Nat.zero_add] at hR
      rw [show z = (q : Nat) from by omega]
      obtain ⟨f, h_34, h_35, -⟩ := id hp
      refine v_iload_n dX1_putDigit_4 rfl ?_
      refine v_bipush (iI 9) dX1_putDigit_5 rfl ?_
      refine w_icmp_ge 44 dX1_putDigit_7 (by decide) (by omega) (by decide) (fun c1 => ?_) (fun c1 => ?_)
      · exact k44 _ _ hp hR hU hB hA hG fr
      · skip
        refine v_aload_n dX1_putDigit_10 rfl ?_
        refine v_get fX1_23 dX1_putDigit_11 h_34 (by decide) rfl ?_
        refine v_aload_n dX1_putDigit_14 rfl ?_
        refine v_get fX1_27 dX1_putDigit_15 h_34 (by decide) rfl ?_
        obtain ⟨u937, f937, h_37, -⟩ := id hR
        have hcr := cmpz_r R' U
        refine v_cV (av := [.ref 39]) (st := []) zyX7_against lX1_145 h_37 rfl (p_against (d := 2) hR hU) dX1_putDigit_18 rfl rfl (Nat.le_of_ble_eq_true rfl) (by omega) (Nat.le_of_ble_eq_true rfl) (Nat.le_of_ble_eq_true rfl) (Or.inl (fun _ _ _ q => ZN q)) (fun r9 K1 n9 q9 => ?_)
        obtain ⟨rfl, q9n, q9h⟩ := q9
        have q9n := q9n.symm
        subst q9n
        have q9h := q9h.symm
        subst q9h
        refine w_if_lt 44 dX1_putDigit_21 (by decide) (by omega) (fun c2 => ?_) (fun c2 => ?_)
        · exact k44 _ _ hp hR hU hB hA hG fr
        · exact absurd (cmpz_lt.mpr hR') (by omega)
    | succ m ih =>
      intro i y z H hi ey ez hp hR hU hB hA hG fr
      obtain ⟨f, h_34, h_35, -⟩ := id hp
      rw [Nat.add_mul, Nat.one_mul] at hR
      refine v_iload_n dX1_putDigit_4 rfl ?_
      refine v_bipush (iI 9) dX1_putDigit_5 rfl ?_
      refine w_icmp_ge 44 dX1_putDigit_7 (by decide) (by omega) (by decide) (fun c1 => ?_) (fun c1 => ?_)
      · exact absurd c1 (by omega)
      · skip
        refine v_aload_n dX1_putDigit_10 rfl ?_
        refine v_get fX1_23 dX1_putDigit_11 h_34 (by decide) rfl ?_
        refine v_aload_n dX1_putDigit_14 rfl ?_
        refine v_get fX1_27 dX1_putDigit_15 h_34 (by decide) rfl ?_
        obtain ⟨u937, f937, h_37, -⟩ := id hR
        have hcr := cmpz_r (m * U + U + R') U
        refine v_cV (av := [.ref 39]) (st := []) zyX7_against lX1_145 h_37 rfl (p_against (d := 2) hR hU) dX1_putDigit_18 rfl rfl (Nat.le_of_ble_eq_true rfl) (by omega) (Nat.le_of_ble_eq_true rfl) (Nat.le_of_ble_eq_true rfl) (Or.inl (fun _ _ _ q => ZN q)) (fun r9 K1 n9 q9 => ?_)
        obtain ⟨rfl, q9n, q9h⟩ := q9
        have q9n := q9n.symm
        subst q9n
        have q9h := q9h.symm
        subst q9h
        refine w_if_lt 44 dX1_putDigit_21 (by decide) (by omega) (fun c2 => ?_) (fun c2 => ?_)
        · exact absurd (cmpz_lt.mp c2) (by omega)
        · skip
          refine v_aload_n dX1_putDigit_24 rfl ?_
          refine v_get fX1_23 dX1_putDigit_25 h_34 (by decide) rfl ?_
          refine v_aload_n dX1_putDigit_28 rfl ?_
          refine v_get fX1_27 dX1_putDigit_29 h_34 (by decide) rfl ?_
          obtain ⟨u937, f937, h_37, -⟩ := id hR
          refine v_cV (av := [.ref 39]) (st := []) zyX7_lower lX1_133 h_37 rfl (p_lower (d := 2) hR hU (by decide) (by decide) (by omega)) dX1_putDigit_32 rfl rfl (Nat.le_of_ble_eq_true rfl) (by omega) (Nat.le_of_ble_eq_true rfl) (Nat.le_of_ble_eq_true rfl) (Or.inl (fun _ _ _ q => ZN q)) (fun r9 G1 n9 q9 => ?_)
          obtain ⟨rfl, q9n, hR, fr9⟩ := q9
          have q9n := q9n.symm
          subst q9n
          rw [show m * U + U + R' - U = m * U + R' from by omega] at hR
          refine w_iinc (lv' := [(2, .int (iI (z + 1))), (0, .ref 34), (1, .int (iI (bz fi))), (3, .int (iI y))]) dX1_putDigit_35 rfl (by decide) rfl ?_
          refine w_iinc (lv' := [(3, .int (iI (y + 1))), (2, .int (iI (z + 1))), (0, .ref 34), (1, .int (iI (bz fi)))]) dX1_putDigit_38 rfl (by decide) rfl ?_
          refine v_goto 4 dX1_putDigit_41 (by decide) ?_
          refine w_sub (lv2 := [(0, .ref 34), (1, .int (iI (bz fi))), (2, .int (iI (z + 1))), (3, .int (iI (y + 1)))]) [2, 3, 1, 0] rfl ?_
          exact ih (i + 1) (y + 1) (z + 1) _ (by omega) (by omega) (by omega) (hp.fr fr9 (by decide) (by decide)) hR (hU.fr fr9 (by decide) (by decide)) (hB.fr fr9 (by decide) (by decide)) (hA.fr fr9 (by decide) (by decide)) (hG.fr fr9 (by decide) (by decide)) (fr.tr fr9 (by decide))
  refine v_iconst (iI 0) dX1_putDigit_0 rfl ?_
  refine v_istore_n (i := 2) (lv' := [(2, .int (iI 0)), (0, .ref 34), (1, .int (iI (bz fi)))]) dX1_putDigit_1 rfl (by decide) rfl ?_
  refine v_iconst (iI 0) dX1_putDigit_2 rfl ?_
  refine v_istore_n (i := 3) (lv' := [(3, .int (iI 0)), (2, .int (iI 0)), (0, .ref 34), (1, .int (iI (bz fi)))]) dX1_putDigit_3 rfl (by decide) rfl ?_
  refine w_sub (lv2 := [(0, .ref 34), (1, .int (iI (bz fi))), (2, .int (iI 0)), (3, .int (iI 0))]) [2, 3, 1, 0] rfl ?_
  exact loop q 0 0 0 _ (by omega) rfl rfl hp (by rw [← eRq]; exact hR) hU hB hA hG fr
