/-! The page: the whole of the shortest decimal -/
def shS (ob oa ev : Bool) (U : Nat) : Nat → Bool → Nat → Nat → Nat → Int → List Nat → List Nat × Int
  | 0, _, _, _, _, tens, L => (L, tens)
  | m + 1, fi, R, B, A, tens, L => if sStop ob oa ev U R B A = true then (L ++ [sCh ob oa ev fi U R B A], cond (sRoll ob oa ev fi U R B A) (tens + 1) tens) else shS ob oa ev U m false (R % U * 10) (B * 10) (A * 10) tens (L ++ [sCh ob oa ev fi U R B A] ++ cond fi [46] [])
theorem shS_b {ob oa ev : Bool} {U : Nat} : ∀ (m : Nat) (fi : Bool) (R B A : Nat) (tens : Int) (L : List Nat), tens ≤ (shS ob oa ev U m fi R B A tens L).2 ∧ (shS ob oa ev U m fi R B A tens L).2 ≤ tens + 1 ∧ (shS ob oa ev U m fi R B A tens L).1.length ≤ L.length + m + cond fi 1 0
  | 0, fi, R, B, A, tens, L => by
    refine ⟨Int.le_refl _, ?_, ?_⟩
    · show tens ≤ tens + 1; omega
    · show L.length ≤ _; omega
  | m + 1, fi, R, B, A, tens, L => by
    unfold shS
    by_cases q : sStop ob oa ev U R B A = true
    · rw [if_pos q]
      refine ⟨?_, ?_, ?_⟩
      · show tens ≤ cond _ _ _; cases sRoll ob oa ev fi U R B A <;> simp <;> omega
      · show cond _ _ _ ≤ tens + 1; cases sRoll ob oa ev fi U R B A <;> simp <;> omega
      · show (L ++ [_]).length ≤ _; rw [List.length_append, List.length_singleton]; omega
    · rw [if_neg q]
      have := shS_b (ob := ob) (oa := oa) (ev := ev) (U := U) m false (R % U * 10) (B * 10) (A * 10) tens (L ++ [sCh ob oa ev fi U R B A] ++ cond fi [46] [])
      refine ⟨this.1, this.2.1, Nat.le_trans this.2.2 ?_⟩
      rw [List.length_append, List.length_append, List.length_singleton]
      cases fi <;> simp <;> omega
theorem stop_f {ob oa ev : Bool} {U R B A : Nat} (h : sStop ob oa ev U R B A = false) : B ≤ R % U ∧ A ≤ U - R % U ∧ ∀ fi, sRoll ob oa ev fi U R B A = false := by
  unfold sStop at h
  rw [Bool.or_eq_false_iff] at h
  obtain ⟨h1, h2⟩ := h
  have h2' := h2
  unfold sDn at h1
  unfold sUf at h2
  rw [Bool.or_eq_false_iff] at h1 h2
  have k1 := h1.2
  have k2 := h2.2
  unfold fit at k1 k2
  rw [Bool.or_eq_false_iff] at k1 k2
  have l1 := of_decide_eq_false k1.1
  have l2 := of_decide_eq_false k2.1
  refine ⟨by omega, by omega, fun fi => ?_⟩
  unfold sRoll sUp
  rw [h2']; rfl
/-- the page with all its cells, and its text L -/
def PG (h : zH) (L : List Nat) : Prop := (∃ ob oa ev tens, PT h ob oa ev tens L) ∧ (∃ v, WD h 37 38 v) ∧ (∃ v, WD h 39 40 v) ∧ (∃ v, WD h 41 42 v) ∧ (∃ v, WD h 43 44 v) ∧ (∃ v, WD h 45 46 v) ∧ ∃ na mi s x, h 36 = oPosit na mi s x
/-- the shortest decimal's text -/
def shT (ob oa ev mi : Bool) (U R B A : Nat) (tens : Int) : List Nat := (shS ob oa ev U 60 true R B A tens (cond mi [45] [])).1 ++ ([101] ++ pwT (shS ob oa ev U 60 true R B A tens (cond mi [45] [])).2)
set_option maxHeartbeats 8000000 in
set_option maxRecDepth 100000 in
theorem p_putShort {d n sg w p u EL EH R B A j k : Nat} {na mi : Bool} {ex : Int} {L0 : List Nat} {h : zH} (hP : PG h L0) (h_12 : h 12 = oPosit na mi (sg:Nat) ex) (hs : sg < 1073741824) (hx : -120 ≤ ex ∧ ex ≤ 120) (hw : 3 ≤ w ∧ w ≤ 32) (hu : 0 < u ∧ u < 2 ^ (w - 1)) (hd : 4 ≤ d) (hpu : u = cond mi (2 ^ w - p) p) (hpw : p < 2 ^ w)
    (eR : sg * 2 ^ (ex + 120).toNat = R) (hR1 : R < 2 ^ 300) (hEL : u ≠ 1 → (∀ (s : Nat) (x : Int), ld (2 * u - 1) (w + 1) s x → -120 ≤ x ∧ x ≤ 120 ∧ s * 2 ^ (x + 120).toNat = EL) ∧ EL ≤ R) (hEH : u ≠ 2 ^ (w - 1) - 1 → (∀ (s : Nat) (x : Int), ld (2 * u + 1) (w + 1) s x → -120 ≤ x ∧ x ≤ 120 ∧ s * 2 ^ (x + 120).toNat = EH) ∧ R ≤ EH ∧ EH < 2 ^ 300)
    (eB : (if u = 1 then 0 else R - EL) = B) (eA : (if u = 2 ^ (w - 1) - 1 then 0 else EH - R) = A) (hj : j < 60) (hk : k < 60) (hj1 : ∀ i, i < j → 1 * 2 ^ 120 * 10 ^ (i + 1) ≤ R) (hj2 : R < 1 * 2 ^ 120 * 10 ^ (j + 1)) (hk1 : ∀ i, i < k → R * 10 ^ i < 1 * 2 ^ 120 * 10 ^ j) (hk2 : 1 * 2 ^ 120 * 10 ^ j ≤ R * 10 ^ k) (hk3 : R * 10 ^ k < 1 * 2 ^ 120 * 10 ^ (j + 1)) :
    zM yX1_putShort cX1_putShort 7 none d 0 0 [.ref 34, .ref 12, .long (jL (p:Nat)), .int (iI (w:Nat))] h n (fun r h' n' => r = none ∧ n' = n ∧ PG h' (shT (decide (u = 1)) (decide (u = 2 ^ (w - 1) - 1)) (decide (u % 2 = 0)) mi (1 * 2 ^ 120 * 10 ^ j) (R * 10 ^ k) (B * 10 ^ k) (A * 10 ^ k) ((j : Int) - k)) ∧ zFr (35 :: PGE) h h') := by
  obtain ⟨⟨ob0, oa0, ev0, tens0, hp⟩, ⟨R0, hR⟩, ⟨U0, hU⟩, ⟨B0, hB⟩, ⟨A0, hA⟩, ⟨G0, hG⟩, na2, mi2, s2, x2, h_36⟩ := hP
  obtain ⟨ob, eob⟩ : ∃ ob, decide (u = 1) = ob := ⟨_, rfl⟩
  obtain ⟨oa, eoa⟩ : ∃ oa, decide (u = 2 ^ (w - 1) - 1) = oa := ⟨_, rfl⟩
  obtain ⟨ev, eev⟩ : ∃ ev, decide (u % 2 = 0) = ev := ⟨_, rfl⟩
  obtain ⟨U, eU⟩ : ∃ U, 1 * 2 ^ 120 * 10 ^ j = U := ⟨_, rfl⟩
  have hU0 : 0 < U := by rw [← eU]; exact Nat.mul_pos (by decide) (Nat.pow_pos (by decide))
  have hU1 : U < 2 ^ 400 := by
    have : (10 : Nat) ^ j ≤ 10 ^ 60 := Nat.pow_le_pow_right (by decide) (by omega)
    have q : (10 : Nat) ^ 60 < 2 ^ 200 := by decide
    rw [← eU]
    have := Nat.mul_lt_mul'' (show 1 * 2 ^ 120 < 2 ^ 121 by decide) (Nat.lt_of_le_of_lt this q)
    exact Nat.lt_trans this (by decide)
  have hRk : R * 10 ^ k < U * 10 := by rw [← eU, Nat.mul_assoc, ← Nat.pow_succ]; exact hk3
  obtain ⟨T, eT⟩ : ∃ T, shS ob oa ev U 60 true (R * 10 ^ k) (B * 10 ^ k) (A * 10 ^ k) ((j : Int) - k) (cond mi [45] []) = T := ⟨_, rfl⟩
  have hT := shS_b (ob := ob) (oa := oa) (ev := ev) (U := U) 60 true (R * 10 ^ k) (B * 10 ^ k) (A * 10 ^ k) ((j : Int) - k) (cond mi [45] [])
  rw [eT] at hT
  have hmiL : (cond mi [45] [] : List Nat).length ≤ 1 := by cases mi <;> simp
  rw [cond_true] at hT
  have eTx : shT ob oa ev mi U (R * 10 ^ k) (B * 10 ^ k) (A * 10 ^ k) ((j : Int) - k) = T.1 ++ ([101] ++ pwT T.2) := by unfold shT; rw [eT]
  refine zM_of zyX1_putShort rfl (Nat.le_of_ble_eq_true rfl) (fun X hX => ?_)
  have fr : zFr (35 :: PGE) h h := zFr.rf
  have fin : ∀ (H : zH), PT H ob oa ev T.2 T.1 → (∃ v, WD H 37 38 v) → (∃ v, WD H 39 40 v) → (∃ v, WD H 41 42 v) → (∃ v, WD H 43 44 v) → (∃ v, WD H 45 46 v) → (∃ na mi s x, H 36 = oPosit na mi s x) → zFr (35 :: PGE) h H → ∀ (s i : Int), (zV X (fun r h' n' => r = none ∧ n' = n ∧ PG h' (shT (decide (u = 1)) (decide (u = 2 ^ (w - 1) - 1)) (decide (u % 2 = 0)) mi (1 * 2 ^ 120 * 10 ^ j) (R * 10 ^ k) (B * 10 ^ k) (A * 10 ^ k) ((j : Int) - k)) ∧ zFr (35 :: PGE) h h') cX1_putShort 7 RX1 none d 0 0 110 [(0, .ref 34), (5, .int (iI s)), (6, .int (iI i))] [] H n 0 0) := by
    intro H hp hR hU hB hA hG hE fr s i
    rw [eob, eoa, eev, eU, eTx]
    obtain ⟨rv, hR⟩ := hR
    obtain ⟨uv, hU⟩ := hU
    obtain ⟨bv, hB⟩ := hB
    obtain ⟨av, hA⟩ := hA
    obtain ⟨gv, hG⟩ := hG
    obtain ⟨na3, mi3, s3, x3, h_36⟩ := hE
    obtain ⟨f, h_34, -⟩ := id hp
    refine v_aload_n dX1_putShort_110 rfl ?_
    refine v_bipush (iI 101) dX1_putShort_111 rfl ?_
    refine v_cV (av := [.int (iI 101)]) (st := []) zyX1_append lX1_43 h_34 rfl (p_pappend (d := 3) (x := 101) hp (by omega) (by decide)) dX1_putShort_113 rfl rfl (Nat.le_of_ble_eq_true rfl) (by omega) (Nat.le_of_ble_eq_true rfl) (Nat.le_of_ble_eq_true rfl) (Or.inl (fun _ _ _ q => ZN q)) (fun r9 G1 n9 q9 => ?_)
    obtain ⟨rfl, q9n, hp, fr9⟩ := q9
    have q9n := q9n.symm
    subst q9n
    have h_36 := (fr9 36 (by decide)).trans h_36
    have hR := hR.fr fr9 (by decide) (by decide)
    have hU := hU.fr fr9 (by decide) (by decide)
    have hB := hB.fr fr9 (by decide) (by decide)
    have hA := hA.fr fr9 (by decide) (by decide)
    have hG := hG.fr fr9 (by decide) (by decide)
    have fr := fr.tr fr9 (by decide)
    obtain ⟨f, h_34, -⟩ := id hp
    refine v_aload_n dX1_putShort_116 rfl ?_
    refine v_cV (av := []) (st := []) zyX1_putPower lX1_102 h_34 rfl (p_putPower (d := 3) hp (by rw [List.length_append, List.length_singleton]; omega) (by omega) (by decide)) dX1_putShort_117 rfl rfl (Nat.le_of_ble_eq_true rfl) (by omega) (Nat.le_of_ble_eq_true rfl) (Nat.le_of_ble_eq_true rfl) (Or.inl (fun _ _ _ q => ZN q)) (fun r9 G2 n9 q9 => ?_)
    obtain ⟨rfl, q9n, hp, fr8⟩ := q9
    have q9n := q9n.symm
    subst q9n
    have h_36 := (fr8 36 (by decide)).trans h_36
    have hR := hR.fr fr8 (by decide) (by decide)
    have hU := hU.fr fr8 (by decide) (by decide)
    have hB := hB.fr fr8 (by decide) (by decide)
    have hA := hA.fr fr8 (by decide) (by decide)
    have hG := hG.fr fr8 (by decide) (by decide)
    have fr := fr.tr fr8 (by decide)
    rw [List.append_assoc] at hp
    exact v_vret dX1_putShort_120 trivial (Nat.le_of_ble_eq_true rfl) (Nat.le_of_ble_eq_true rfl) ⟨rfl, rfl, ⟨⟨_, _, _, _, hp⟩, ⟨_, hR⟩, ⟨_, hU⟩, ⟨_, hB⟩, ⟨_, hA⟩, ⟨_, hG⟩, _, _, _, _, h_36⟩, fr⟩
  have loop : ∀ (m i : Nat) (fi : Bool) (y : Int) (r b a st : Nat) (tn : Int) (L : List Nat) (H : zH), i + m = 60 → y = i → r < U * 10 → fi = decide (L.length = st) → L.length ≠ st + 1 → st ≤ L.length → L.length ≤ 70 → -99 ≤ tn → tn ≤ 98 → shS ob oa ev U m fi r b a tn L = T → L.length + m + cond fi 1 0 ≤ 70 → PT H ob oa ev tn L → WD H 37 38 r → WD H 39 40 U → WD H 41 42 b → WD H 43 44 a → (∃ v, WD H 45 46 v) → (∃ na mi s x, H 36 = oPosit na mi s x) → zFr (35 :: PGE) h H → (zV X (fun r h' n' => r = none ∧ n' = n ∧ PG h' (shT (decide (u = 1)) (decide (u = 2 ^ (w - 1) - 1)) (decide (u % 2 = 0)) mi (1 * 2 ^ 120 * 10 ^ j) (R * 10 ^ k) (B * 10 ^ k) (A * 10 ^ k) ((j : Int) - k)) ∧ zFr (35 :: PGE) h h') cX1_putShort 7 RX1 none d 0 0 55 [(0, .ref 34), (5, .int (iI (st:Nat))), (6, .int (iI y))] [] H n 0 0) := by
    intro m
    induction m with
    | zero =>
      intro i fi y r b a st tn L H hi ey hr hfi hst hsl hL ht1 ht2 eS hlm hp hR hU hB hA hG hE fr
      have eS : (L, tn) = T := eS
      refine v_iload dX1_putShort_55 rfl ?_
      refine v_bipush (iI 60) dX1_putShort_57 rfl ?_
      refine w_icmp_ge 110 dX1_putShort_59 (by decide) (by omega) (by decide) (fun c1 => ?_) (fun c1 => ?_)
      · exact fin _ (by rw [← eS]; exact hp) ⟨_, hR⟩ ⟨_, hU⟩ ⟨_, hB⟩ ⟨_, hA⟩ hG hE fr _ _
      · exact absurd c1 (by omega)
    | succ m ih =>
      intro i fi y r b a st tn L H hi ey hr hfi hst hsl hL ht1 ht2 eS hlm hp hR hU hB hA hG hE fr
      obtain ⟨gv, hG⟩ := hG
      obtain ⟨na3, mi3, s3, x3, h_36⟩ := hE
      have go : ∀ c9 : Bool, c9 = fi → (zV X (fun r h' n' => r = none ∧ n' = n ∧ PG h' (shT (decide (u = 1)) (decide (u = 2 ^ (w - 1) - 1)) (decide (u % 2 = 0)) mi (1 * 2 ^ 120 * 10 ^ j) (R * 10 ^ k) (B * 10 ^ k) (A * 10 ^ k) ((j : Int) - k)) ∧ zFr (35 :: PGE) h h') cX1_putShort 7 RX1 none d 0 0 77 [(0, .ref 34), (5, .int (iI (st:Nat))), (6, .int (iI y))] [.int (iI (bz c9)), .ref 34] H n 0 0) := by
        intro c9 e9
        subst e9
        obtain ⟨f, h_34, -⟩ := id hp
        refine v_cV (av := [.int (iI (bz c9))]) (st := []) zyX1_putDigit lX1_95 h_34 rfl (p_putDigit (d := 3) hp hR hU hB hA hG (by decide) hU0 hr (by omega) (by omega)) dX1_putShort_77 rfl rfl (Nat.le_of_ble_eq_true rfl) (by omega) (Nat.le_of_ble_eq_true rfl) (Nat.le_of_ble_eq_true rfl) (Or.inl (fun _ _ _ q => ZN q)) (fun r9 G1 n9 q9 => ?_)
        obtain ⟨rfl, q9n, hp, hR, hU, hB, hA, hG, fr9⟩ := q9
        have q9n := q9n.symm
        subst q9n
        have h_36 := (fr9 36 (by decide)).trans h_36
        have fr := fr.tr fr9 (by decide)
        obtain ⟨gw, hG⟩ := hG
        refine w_ifb_ne 110 dX1_putShort_80 (by decide) (fun c1 => ?_) (fun c1 => ?_)
        · have es : (L ++ [sCh ob oa ev c9 U r b a], cond (sRoll ob oa ev c9 U r b a) (tn + 1) tn) = T := by rw [← eS]; unfold shS; rw [if_pos c1]
          exact fin _ (by rw [← es]; exact hp) ⟨_, hR⟩ ⟨_, hU⟩ ⟨_, hB⟩ ⟨_, hA⟩ ⟨_, hG⟩ ⟨_, _, _, _, h_36⟩ fr _ _
        · obtain ⟨hb1, ha1, hro⟩ := stop_f c1
          have es : shS ob oa ev U m false (r % U * 10) (b * 10) (a * 10) tn (L ++ [sCh ob oa ev c9 U r b a] ++ cond c9 [46] []) = T := by rw [← eS]; show _ = (if _ then _ else _); rw [if_neg (by rw [c1]; decide)]
          have hrU := Nat.mod_lt r hU0
          rw [hro c9, cond_false] at hp
          have nx : ∀ (H : zH), PT H ob oa ev tn (L ++ [sCh ob oa ev c9 U r b a] ++ cond c9 [46] []) → WD H 37 38 (r % U) → WD H 39 40 U → WD H 41 42 b → WD H 43 44 a → WD H 45 46 gw → H 36 = oPosit na3 mi3 s3 x3 → zFr (35 :: PGE) h H → (zV X (fun r h' n' => r = none ∧ n' = n ∧ PG h' (shT (decide (u = 1)) (decide (u = 2 ^ (w - 1) - 1)) (decide (u % 2 = 0)) mi (1 * 2 ^ 120 * 10 ^ j) (R * 10 ^ k) (B * 10 ^ k) (A * 10 ^ k) ((j : Int) - k)) ∧ zFr (35 :: PGE) h h') cX1_putShort 7 RX1 none d 0 0 100 [(0, .ref 34), (5, .int (iI (st:Nat))), (6, .int (iI y))] [] H n 0 0) := by
            intro H hp hR hU hB hA hG h_36 fr
            obtain ⟨f, h_34, -⟩ := id hp
            have hlen : (L ++ [sCh ob oa ev c9 U r b a] ++ cond c9 [46] []).length = L.length + 1 + cond c9 1 0 := by
              rw [List.length_append, List.length_append, List.length_singleton]; cases c9 <;> rfl
            have hcc : c9 = false ∨ c9 = true ∧ L.length = st := by
              rcases Bool.eq_false_or_eq_true c9 with z | z
              · right; rw [z] at hfi; exact ⟨z, of_decide_eq_true hfi.symm⟩
              · left; exact z
            have hcf : c9 = false → L.length ≠ st := fun z => by rw [z] at hfi; exact of_decide_eq_false hfi.symm
            refine v_aload_n dX1_putShort_100 rfl ?_
            refine v_cV (av := []) (st := []) zyX1_growParts lX1_99 h_34 rfl (p_growParts (d := 3) h_34 hR hB hA (by omega) (by omega) (by omega) (by decide)) dX1_putShort_101 rfl rfl (Nat.le_of_ble_eq_true rfl) (by omega) (Nat.le_of_ble_eq_true rfl) (Nat.le_of_ble_eq_true rfl) (Or.inl (fun _ _ _ q => ZN q)) (fun r9 G9 n9 q9 => ?_)
            obtain ⟨rfl, q9n, hR, hB, hA, fr8⟩ := q9
            have q9n := q9n.symm
            subst q9n
            refine w_iinc (lv' := [(6, .int (iI (y + 1))), (0, .ref 34), (5, .int (iI (st:Nat)))]) dX1_putShort_104 rfl (by decide) rfl ?_
            refine v_goto 55 dX1_putShort_107 (by decide) ?_
            refine w_sub (lv2 := [(0, .ref 34), (5, .int (iI (st:Nat))), (6, .int (iI (y + 1)))]) [1, 2, 0] rfl ?_
            refine ih (i + 1) false (y + 1) _ _ _ st tn _ _ (by omega) (by omega) (by omega) ?_ ?_ (by rw [hlen]; omega) ?_ ht1 ht2 es ?_ (hp.fr fr8 (by decide) (by decide)) hR (hU.fr fr8 (by decide) (by decide)) hB hA ⟨_, hG.fr fr8 (by decide) (by decide)⟩ ⟨_, _, _, _, (fr8 36 (by decide)).trans h_36⟩ (fr.tr fr8 (by decide))
            · rw [hlen]
              exact (decide_eq_false (by
                rcases hcc with z | ⟨z, z2⟩
                · rw [z, cond_false]; have := hcf z; omega
                · rw [z, cond_true]; omega)).symm
            · rw [hlen]
              rcases hcc with z | ⟨z, z2⟩
              · rw [z, cond_false]; have := hcf z; omega
              · rw [z, cond_true]; omega
            · rw [hlen]
              rcases hcc with z | ⟨z, z2⟩
              · rw [z, cond_false] at hlm ⊢; omega
              · rw [z, cond_true] at hlm ⊢; omega
            · rw [hlen, cond_false]
              rcases hcc with z | ⟨z, z2⟩
              · rw [z, cond_false] at hlm ⊢; omega
              · rw [z, cond_true] at hlm ⊢; omega
          obtain ⟨f, h_34, -⟩ := id hp
          have hl1 : (L ++ [sCh ob oa ev c9 U r b a]).length = L.length + 1 := by rw [List.length_append, List.length_singleton]
          refine v_aload_n dX1_putShort_83 rfl ?_
          refine v_get fX1_39 dX1_putShort_84 h_34 (by decide) rfl ?_
          refine v_iload dX1_putShort_87 rfl ?_
          refine v_iconst (iI 1) dX1_putShort_89 rfl ?_
          refine w_iadd dX1_putShort_90 ?_
          refine w_icmp_ne 100 dX1_putShort_91 (by decide) (by omega) (by omega) (fun c2 => ?_) (fun c2 => ?_)
          · have z : c9 = false := by rw [hfi]; exact decide_eq_false (by omega)
            exact nx _ (by rw [z, cond_false, List.append_nil]; rw [z] at hp; exact hp) hR hU hB hA hG h_36 fr
          · have z : c9 = true := by rw [hfi]; exact decide_eq_true (by omega)
            refine v_aload_n dX1_putShort_94 rfl ?_
            refine v_bipush (iI 46) dX1_putShort_95 rfl ?_
            refine v_cV (av := [.int (iI 46)]) (st := []) zyX1_append lX1_43 h_34 rfl (p_pappend (d := 3) (x := 46) hp (by omega) (by decide)) dX1_putShort_97 rfl rfl (Nat.le_of_ble_eq_true rfl) (by omega) (Nat.le_of_ble_eq_true rfl) (Nat.le_of_ble_eq_true rfl) (Or.inl (fun _ _ _ q => ZN q)) (fun r9 G3 n9 q9 => ?_)
            obtain ⟨rfl, q9n, hp, fr7⟩ := q9
            have q9n := q9n.symm
            subst q9n
            exact nx _ (by rw [z, cond_true]; rw [z] at hp; exact hp) (hR.fr fr7 (by decide) (by decide)) (hU.fr fr7 (by decide) (by decide)) (hB.fr fr7 (by decide) (by decide)) (hA.fr fr7 (by decide) (by decide)) (hG.fr fr7 (by decide) (by decide)) ((fr7 36 (by decide)).trans h_36) (fr.tr fr7 (by decide))
      obtain ⟨f, h_34, -⟩ := id hp
      refine v_iload dX1_putShort_55 rfl ?_
      refine v_bipush (iI 60) dX1_putShort_57 rfl ?_
      refine w_icmp_ge 110 dX1_putShort_59 (by decide) (by omega) (by decide) (fun c1 => ?_) (fun c1 => ?_)
      · exact absurd c1 (by omega)
      · skip
        refine v_aload_n dX1_putShort_62 rfl ?_
        refine v_aload_n dX1_putShort_63 rfl ?_
        refine v_get fX1_39 dX1_putShort_64 h_34 (by decide) rfl ?_
        refine v_iload dX1_putShort_67 rfl ?_
        refine w_icmp_ne 76 dX1_putShort_69 (by decide) (by omega) (by omega) (fun c2 => ?_) (fun c2 => ?_)
        · skip
          refine v_iconst (iI 0) dX1_putShort_76 rfl ?_
          refine w_ei (bz false) rfl ?_
          exact go false (by rw [hfi]; exact (decide_eq_false (by omega)).symm)
        · skip
          refine v_iconst (iI 1) dX1_putShort_72 rfl ?_
          refine v_goto 77 dX1_putShort_73 (by decide) ?_
          refine w_ei (bz true) rfl ?_
          exact go true (by rw [hfi]; exact (decide_eq_true (by omega)).symm)
  have j37 : ∀ (H : zH), PT H ob0 oa0 ev0 tens0 (cond mi [45] []) → WD H 37 38 R0 → WD H 39 40 U0 → WD H 41 42 B0 → WD H 43 44 A0 → WD H 45 46 G0 → H 36 = oPosit na2 mi2 s2 x2 → H 12 = oPosit na mi (sg:Nat) ex → zFr (35 :: PGE) h H → (zV X (fun r h' n' => r = none ∧ n' = n ∧ PG h' (shT (decide (u = 1)) (decide (u = 2 ^ (w - 1) - 1)) (decide (u % 2 = 0)) mi (1 * 2 ^ 120 * 10 ^ j) (R * 10 ^ k) (B * 10 ^ k) (A * 10 ^ k) ((j : Int) - k)) ∧ zFr (35 :: PGE) h h') cX1_putShort 7 RX1 none d 0 0 37 [(0, .ref 34), (1, .ref 12), (2, .long (jL (p:Nat))), (4, .int (iI (w:Nat)))] [.long (jL (u:Nat)), .ref 12, .ref 34] H n 0 0) := by
    intro H hp hR hU hB hA hG h_36 h_12 fr
    obtain ⟨f, h_34, -⟩ := id hp
    refine v_iload dX1_putShort_37 rfl ?_
    have hEH2 : u ≠ 2 ^ (w - 1) - 1 → (∀ (s : Nat) (x : Int), ld (2 * u + 1) (w + 1) s x → -120 ≤ x ∧ x ≤ 120 ∧ s * 2 ^ (x + 120).toNat = EH) ∧ R ≤ EH ∧ EH < 2 ^ 500 := fun z => ⟨(hEH z).1, (hEH z).2.1, Nat.lt_trans (hEH z).2.2 (by decide)⟩
    refine v_cV (av := [.ref 12, .long (jL (u:Nat)), .int (iI (w:Nat))]) (st := []) zyX1_loadBounds lX1_88 h_34 rfl (p_loadBounds (d := 3) hp hR hU hB hA hG h_36 h_12 hs hx hw hu (by decide) eR (Nat.lt_trans hR1 (by decide)) hEL hEH2) dX1_putShort_39 rfl rfl (Nat.le_of_ble_eq_true rfl) (by omega) (Nat.le_of_ble_eq_true rfl) (Nat.le_of_ble_eq_true rfl) (Or.inl (fun _ _ _ q => ZN q)) (fun r9 G1 n9 q9 => ?_)
    obtain ⟨rfl, q9n, hp, hR, hU, hB, hA, ⟨gv, hG⟩, ⟨na3, mi3, s3, x3, h_36⟩, fr9⟩ := q9
    have q9n := q9n.symm
    subst q9n
    rw [eob, eoa, eev] at hp
    rw [eB] at hB
    rw [eA] at hA
    have fr := fr.tr fr9 (by decide)
    obtain ⟨f, h_34, h_35, hbb, htx, hl⟩ := id hp
    have hB1 : B < 2 ^ 300 := by
      rw [← eB]; split
      · exact p_pos 300
      · omega
    have hA1 : A < 2 ^ 300 := by
      rw [← eA]; split
      · exact p_pos 300
      · rename_i z; have := hEH z; omega
    refine v_aload_n dX1_putShort_42 rfl ?_
    refine v_cV (av := []) (st := []) zyX1_scaleToOneDigit lX1_92 h_34 rfl (p_scaleToOneDigit (d := 3) (j := j) (k := k) h_34 hR hU hB hA hG (by decide) hR1 (by decide) hB1 hA1 hj hk hj1 hj2 hk1 hk2) dX1_putShort_43 rfl rfl (Nat.le_of_ble_eq_true rfl) (by omega) (Nat.le_of_ble_eq_true rfl) (Nat.le_of_ble_eq_true rfl) (Or.inl (fun _ _ _ q => ZN q)) (fun r9 G2 n9 q9 => ?_)
    obtain ⟨rfl, q9n, h_34, hR, hU, hB, hA, hG, fr8⟩ := q9
    have q9n := q9n.symm
    subst q9n
    rw [eU] at hU
    have h_36 := (fr8 36 (by decide)).trans h_36
    have h_35 := (fr8 35 (by decide)).trans h_35
    have fr := fr.tr fr8 (by decide)
    refine v_aload_n dX1_putShort_46 rfl ?_
    refine v_get fX1_39 dX1_putShort_47 h_34 (by decide) rfl ?_
    refine v_istore (i := 5) (lv' := [(5, .int (iI ((cond mi [45] [] : List Nat).length:Nat))), (0, .ref 34), (1, .ref 12), (2, .long (jL (p:Nat))), (4, .int (iI (w:Nat)))]) dX1_putShort_50 (by decide) rfl ?_
    refine v_iconst (iI 0) dX1_putShort_52 rfl ?_
    refine v_istore (i := 6) (lv' := [(6, .int (iI 0)), (5, .int (iI ((cond mi [45] [] : List Nat).length:Nat))), (0, .ref 34), (1, .ref 12), (2, .long (jL (p:Nat))), (4, .int (iI (w:Nat)))]) dX1_putShort_53 (by decide) rfl ?_
    refine w_sub (lv2 := [(0, .ref 34), (5, .int (iI ((cond mi [45] [] : List Nat).length:Nat))), (6, .int (iI 0))]) [2, 1, 0] rfl ?_
    exact loop 60 0 true 0 _ _ _ _ _ _ _ rfl rfl hRk (decide_eq_true rfl).symm (by omega) (Nat.le_refl _) (by omega) (by omega) (by omega) eT (by rw [cond_true]; omega) ⟨f, h_34, h_35, hbb, htx, hl⟩ hR hU hB hA hG ⟨_, _, _, _, h_36⟩ fr
  have j18 : ∀ (H : zH), PT H ob0 oa0 ev0 tens0 (cond mi [45] []) → WD H 37 38 R0 → WD H 39 40 U0 → WD H 41 42 B0 → WD H 43 44 A0 → WD H 45 46 G0 → H 36 = oPosit na2 mi2 s2 x2 → H 12 = oPosit na mi (sg:Nat) ex → zFr (35 :: PGE) h H → (zV X (fun r h' n' => r = none ∧ n' = n ∧ PG h' (shT (decide (u = 1)) (decide (u = 2 ^ (w - 1) - 1)) (decide (u % 2 = 0)) mi (1 * 2 ^ 120 * 10 ^ j) (R * 10 ^ k) (B * 10 ^ k) (A * 10 ^ k) ((j : Int) - k)) ∧ zFr (35 :: PGE) h h') cX1_putShort 7 RX1 none d 0 0 18 [(0, .ref 34), (1, .ref 12), (2, .long (jL (p:Nat))), (4, .int (iI (w:Nat)))] [] H n 0 0) := by
    intro H hp hR hU hB hA hG h_36 h_12 fr
    obtain ⟨f, h_34, -⟩ := id hp
    refine v_aload_n dX1_putShort_18 rfl ?_
    refine v_aload_n dX1_putShort_19 rfl ?_
    refine v_aload_n dX1_putShort_20 rfl ?_
    refine v_get fX1_81 dX1_putShort_21 h_12 (by decide) rfl ?_
    refine w_ifb_eq 36 dX1_putShort_24 (by decide) (fun c1 => ?_) (fun c1 => ?_)
    · skip
      refine v_lload_n dX1_putShort_36 rfl ?_
      refine w_el (u:Nat) (by rw [hpu, c1, cond_false]) ?_
      exact j37 _ hp hR hU hB hA hG h_36 h_12 fr
    · skip
      refine v_lconst (jL 1) dX1_putShort_27 rfl ?_
      refine v_iload dX1_putShort_28 rfl ?_
      refine w_lshl dX1_putShort_30 w (2 ^ w) rfl (by omega) (by omega) ?_
      refine v_lload_n dX1_putShort_31 rfl ?_
      refine w_lsub dX1_putShort_32 ?_
      refine v_goto 37 dX1_putShort_33 (by decide) ?_
      refine w_el (u:Nat) (by rw [hpu, c1, cond_true, ip, Int.natCast_sub (by omega)]) ?_
      exact j37 _ hp hR hU hB hA hG h_36 h_12 fr
  obtain ⟨f, h_34, h_35, hbb, htx, hl⟩ := id hp
  refine v_aload_n dX1_putShort_0 rfl ?_
  refine v_iconst (iI 0) dX1_putShort_1 rfl ?_
  refine v_put (fs' := [.ref 35, .ref 36, .ref 37, .ref 39, .ref 41, .ref 43, .ref 45, .int (iI (bz ob0)), .int (iI (bz oa0)), .int (iI (bz ev0)), .int (iI tens0), .int (iI 0)]) fX1_39 dX1_putShort_2 h_34 (by decide) (Nat.le_of_ble_eq_true rfl) rfl rfl rfl (fun H1 eH1 => ?_)
  have h_34 : H1 34 = oPage 35 36 37 39 41 43 45 ob0 oa0 ev0 tens0 0 := zf_same eH1
  have h_35 := (zf_ne eH1 (by decide)).trans h_35
  have h_12 := (zf_ne eH1 (by decide)).trans h_12
  have h_36 := (zf_ne eH1 (by decide)).trans h_36
  have fr := fr.put eH1 (by simp)
  refine v_aload_n dX1_putShort_5 rfl ?_
  refine v_get fX1_81 dX1_putShort_6 h_12 (by decide) rfl ?_
  have fz : zFr [34] h H1 := zFr.put zFr.rf eH1 (by simp)
  have hR := hR.fr fz (by decide) (by decide)
  have hU := hU.fr fz (by decide) (by decide)
  have hB := hB.fr fz (by decide) (by decide)
  have hA := hA.fr fz (by decide) (by decide)
  have hG := hG.fr fz (by decide) (by decide)
  have hp : PT H1 ob0 oa0 ev0 tens0 [] := ⟨f, h_34, h_35, hbb, txt_nil f, by decide⟩
  refine w_ifb_eq 18 dX1_putShort_9 (by decide) (fun c1 => ?_) (fun c1 => ?_)
  · exact j18 _ (by rw [c1]; exact hp) hR hU hB hA hG h_36 h_12 fr
  · skip
    refine v_aload_n dX1_putShort_12 rfl ?_
    refine v_bipush (iI 45) dX1_putShort_13 rfl ?_
    refine v_cV (av := [.int (iI 45)]) (st := []) zyX1_append lX1_43 h_34 rfl (p_pappend (d := 3) (x := 45) hp (by decide) (by decide)) dX1_putShort_15 rfl rfl (Nat.le_of_ble_eq_true rfl) (by omega) (Nat.le_of_ble_eq_true rfl) (Nat.le_of_ble_eq_true rfl) (Or.inl (fun _ _ _ q => ZN q)) (fun r9 G1 n9 q9 => ?_)
    obtain ⟨rfl, q9n, hp, fr9⟩ := q9
    have q9n := q9n.symm
    subst q9n
    exact j18 _ (by rw [c1]; exact hp) (hR.fr fr9 (by decide) (by decide)) (hU.fr fr9 (by decide) (by decide)) (hB.fr fr9 (by decide) (by decide)) (hA.fr fr9 (by decide) (by decide)) (hG.fr fr9 (by decide) (by decide)) ((fr9 36 (by decide)).trans h_36) ((fr9 12 (by decide)).trans h_12) (fr.tr fr9 (by decide))
