/-! The House: quires -/
theorem HQ.up {h h' : zH} {Q : Nat → Int} {qn : Nat → Bool} {k V : Nat} {Q' : Int} {n' : Bool} {S : List Nat} (hq : HQ h Q qn) (f : zFr S h h') (hS : ∀ x ∈ S, x = 4 + 2 * k ∨ x = 5 + 2 * k) (hn : QD h' (4 + 2 * k) (5 + 2 * k) n' V) (eV : V = q512 Q') : HQ h' (zup Q k Q') (zup qn k n') := fun j hj => by
  by_cases e : j = k
  · subst e; rw [zup_same, zup_same, ← eV]; exact hn
  · rw [zup_ne _ _ e, zup_ne _ _ e]
    exact (hq j hj).fr f (fun z => by have := hS _ z; omega) (fun z => by have := hS _ z; omega)
section
variable {X : zX} {Post : zP} {cc : ByteArray} {nL : Nat} {own : String} {ret : Option FieldType} {d MC MS pc : Nat} {lv : List (Nat × Value)} {st : List Value} {h : zH} {n cells slots : Nat}
theorem w_aaldH {k s a0 : Nat} {C1 : String} (hd : decode cc pc = .ok (.aaload, 1)) (ha : h a0 = oQarr (fun k => if k < 4 then some (4 + 2 * k) else none) C1) (hk : k < 4) (es : 4 + 2 * k = s) (k9 : zV X Post cc nL own ret d MC MS (pc + 1) lv (.ref s :: st) h n cells slots) : zV X Post cc nL own ret d MC MS pc lv (.int (iI (k : Nat)) :: .ref a0 :: st) h n cells slots :=
  v_aald hd ha (iI_in hk (by decide)) (by rw [iI_clamp (by omega), ← es]; exact if_pos hk) k9
end
theorem e_br {wd pt : Nat → Nat} {Q x1 x2 : Int} {na aw : Bool} {a1 a2 s1 s2 sh : Nat} (w1 : 3 ≤ wd a1 ∧ wd a1 ≤ 32 ∧ pt a1 < 2 ^ wd a1) (w2 : 3 ≤ wd a2 ∧ wd a2 ≤ 32 ∧ pt a2 < 2 ^ wd a2) (d1 : pd (pt a1) (wd a1) s1 x1) (d2 : pd (pt a2) (wd a2) s2 x2) (hsh : x1 + x2 + 240 = (sh : Int)) :
    (na || (decide (pt a1 = 2 ^ (wd a1 - 1))) || (decide (pt a2 = 2 ^ (wd a2 - 1)))) = mgN wd pt na a1 a2 ∧ cond (na || (decide (pt a1 = 2 ^ (wd a1 - 1))) || (decide (pt a2 = 2 ^ (wd a2 - 1)))) (q512 Q) (qad (q512 Q) (aw ^^ (decide (2 ^ (wd a1 - 1) < pt a1)) ^^ (decide (2 ^ (wd a2 - 1) < pt a2))) (s1 * s2 * 2 ^ sh)) = q512 (mgQ wd pt Q na a1 a2 (cond aw (-1) 1)) := by
  unfold mgN mgQ
  rw [Bool.or_assoc]
  refine ⟨rfl, ?_⟩
  cases hb : (na || ((decide (pt a1 = 2 ^ (wd a1 - 1))) || (decide (pt a2 = 2 ^ (wd a2 - 1))))) with
  | true => rw [cond_true, cond_true]
  | false =>
    rw [cond_false, cond_false]
    rw [Bool.or_eq_false_iff, Bool.or_eq_false_iff] at hb
    exact e_ga ⟨w1.1, w1.2.1⟩ w1.2.2 (of_decide_eq_false hb.2.1) d1 ⟨w2.1, w2.2.1⟩ w2.2.2 (of_decide_eq_false hb.2.2) d2 sh hsh
theorem AC.u {h h' : zH} (q : AC h) (f : zFr [19, 20] h h') (hv : ∃ v, WD h' 19 20 v) : AC h' := by
  obtain ⟨h_15, ⟨qn, qV, hQ⟩, h_18, -, ⟨l0, hL⟩, F0, B0, mo0, h_23, hwF, hwB, t0, hwT⟩ := q
  exact ⟨(f 15 (by decide)).trans h_15, ⟨qn, qV, hQ.fr f (by decide) (by decide)⟩, (f 18 (by decide)).trans h_18, hv, ⟨l0, hL.fr f (by decide) (by decide)⟩, F0, B0, mo0, (f 23 (by decide)).trans h_23, hwF.fr f (by decide) (by decide), hwB.fr f (by decide) (by decide), t0, hwT.fr f (by decide) (by decide)⟩
set_option maxHeartbeats 8000000 in
set_option maxRecDepth 100000 in
theorem p_Hclear {d n tc k : Nat} {wd pt tf : Nat → Nat} {Q : Nat → Int} {qn : Nat → Bool} {L : List Nat} {h : zH} (hH : HD h wd pt Q qn tf tc L) (hk : k < 4) (hd : 7 ≤ d) :
    zM yX8_clear cX8_clear 2 none d 0 0 [.ref 0, .int (iI (k:Nat))] h n (fun r9 h' n' => r9 = none ∧ n' = n ∧ HD h' wd pt (zup Q k 0) (zup qn k false) tf tc L ∧ zFr HOL h h') := by
  obtain ⟨h_0, h_1, h_2, h_3, hQ, ⟨hp12, hp13, hp14⟩, hA, hT, hG⟩ := id hH
  obtain ⟨s, es⟩ : ∃ s, 4 + 2 * k = s := ⟨_, rfl⟩
  refine zM_of zyX8_clear rfl (Nat.le_of_ble_eq_true rfl) (fun X hX => ?_)
  have fr : zFr HOL h h := zFr.rf
  refine v_iload_n dX8_clear_0 rfl ?_
  refine v_cS (av := [.int (iI (k:Nat))]) (st := []) zyX8_checkQuire lX8_156 (p_ckQ (d := 6) hk) dX8_clear_1 rfl rfl (Nat.le_of_ble_eq_true rfl) (by omega) (Nat.le_of_ble_eq_true rfl) (Nat.le_of_ble_eq_true rfl) (Or.inl (fun _ _ _ q => ZN q)) (fun r9 K1 n9 q9 => ?_)
  obtain ⟨rfl, q9n, q9h⟩ := q9
  have q9n := q9n.symm
  subst q9n
  have q9h := q9h.symm
  subst q9h
  refine v_aload_n dX8_clear_4 rfl ?_
  refine v_get fX8_19 dX8_clear_5 h_0 (by decide) rfl ?_
  refine v_iload_n dX8_clear_8 rfl ?_
  refine w_aaldH dX8_clear_9 h_3 hk es ?_
  have hqk := hQ k hk
  rw [es] at hqk
  obtain ⟨f9s, h_s, -⟩ := id hqk
  refine v_cV (av := []) (st := []) zyX3_empty lX8_159 h_s rfl (p_empty (d := 6) hqk) dX8_clear_10 rfl rfl (Nat.le_of_ble_eq_true rfl) (by omega) (Nat.le_of_ble_eq_true rfl) (Nat.le_of_ble_eq_true rfl) (Or.inl (fun _ _ _ q => ZN q)) (fun r9 G2 n9 q9 => ?_)
  obtain ⟨rfl, q9n, hqk, fr8⟩ := q9
  have q9n := q9n.symm
  subst q9n
  rw [← es] at hqk
  have hQ := HQ.up hQ fr8 (by intro x hx; simp at hx; omega) hqk q512_0.symm
  have fr8 : zFr [4, 5, 6, 7, 8, 9, 10, 11] h G2 := fr8.mono (by intro x hx; simp at hx ⊢; omega)
  have h_0 := (fr8 0 (by decide)).trans h_0
  have h_1 := (fr8 1 (by decide)).trans h_1
  have h_2 := (fr8 2 (by decide)).trans h_2
  have h_3 := (fr8 3 (by decide)).trans h_3
  have hp12 := hp12.fr fr8 (by decide)
  have hp13 := hp13.fr fr8 (by decide)
  have hp14 := hp14.fr fr8 (by decide)
  have hA := hA.fr fr8 (by decide)
  have hT := hT.fr fr8 (by decide)
  have hG := hG.fr fr8 (by decide)
  have fr := fr.tr fr8 (by decide)
  exact v_vret dX8_clear_13 trivial (Nat.le_of_ble_eq_true rfl) (Nat.le_of_ble_eq_true rfl) ⟨rfl, rfl, ⟨h_0, h_1, h_2, h_3, hQ, ⟨hp12, hp13, hp14⟩, hA, hT, hG⟩, fr⟩
set_option maxHeartbeats 8000000 in
set_option maxRecDepth 100000 in
theorem p_Hgather {d n tc k a1 a2 : Nat} {wd pt tf : Nat → Nat} {Q : Nat → Int} {qn : Nat → Bool} {L : List Nat} {mi : Bool} {h : zH} (hH : HD h wd pt Q qn tf tc L) (hPL : PL wd pt) (hk : k < 4) (h1 : a1 < 32) (h2 : a2 < 32) (hd : 8 ≤ d) :
    zM yX8_gather cX8_gather 5 none d 0 0 [.ref 0, .int (iI (k:Nat)), .int (iI (a1:Nat)), .int (iI (a2:Nat)), .int (iI (bz mi))] h n (fun r9 h' n' => r9 = none ∧ n' = n ∧ HD h' wd pt (zup Q k (mgQ wd pt (Q k) (qn k) a1 a2 (cond mi (-1) 1))) (zup qn k (mgN wd pt (qn k) a1 a2)) tf tc L ∧ zFr HOL h h') := by
  obtain ⟨h_0, h_1, h_2, h_3, hQ, ⟨hp12, hp13, hp14⟩, hA, hT, hG⟩ := id hH
  have w1 := hPL a1 h1
  have w2 := hPL a2 h2
  obtain ⟨s, es⟩ : ∃ s, 4 + 2 * k = s := ⟨_, rfl⟩
  refine zM_of zyX8_gather rfl (Nat.le_of_ble_eq_true rfl) (fun X hX => ?_)
  have fr : zFr HOL h h := zFr.rf
  refine v_iload_n dX8_gather_0 rfl ?_
  refine v_cS (av := [.int (iI (k:Nat))]) (st := []) zyX8_checkQuire lX8_156 (p_ckQ (d := 7) hk) dX8_gather_1 rfl rfl (Nat.le_of_ble_eq_true rfl) (by omega) (Nat.le_of_ble_eq_true rfl) (Nat.le_of_ble_eq_true rfl) (Or.inl (fun _ _ _ q => ZN q)) (fun r9 K1 n9 q9 => ?_)
  obtain ⟨rfl, q9n, q9h⟩ := q9
  have q9n := q9n.symm
  subst q9n
  have q9h := q9h.symm
  subst q9h
  refine v_aload_n dX8_gather_4 rfl ?_
  refine v_iload_n dX8_gather_5 rfl ?_
  refine v_iload_n dX8_gather_6 rfl ?_
  refine v_iload_n dX8_gather_7 rfl ?_
  refine v_cV (av := [.int (iI (a1:Nat)), .int (iI (a2:Nat)), .int (iI (a2:Nat))]) (st := []) zyX8_loadBoth lX8_111 h_0 rfl (p_loadBoth (d := 7) hH hPL h1 h2 h2 (by decide)) dX8_gather_8 rfl rfl (Nat.le_of_ble_eq_true rfl) (by omega) (Nat.le_of_ble_eq_true rfl) (Nat.le_of_ble_eq_true rfl) (Or.inl (fun _ _ _ q => ZN q)) (fun r9 G1 n9 q9 => ?_)
  obtain ⟨rfl, q9n, ⟨s1, x1, s2, x2, po1, d1, po2, d2⟩, fr9⟩ := q9
  have q9n := q9n.symm
  subst q9n
  have h_0 := (fr9 0 (by decide)).trans h_0
  have h_1 := (fr9 1 (by decide)).trans h_1
  have h_2 := (fr9 2 (by decide)).trans h_2
  have h_3 := (fr9 3 (by decide)).trans h_3
  have hQ := hQ.fr fr9 (by decide)
  have hp14 := hp14.fr fr9 (by decide)
  have hA := hA.fr fr9 (by decide)
  have hT := hT.fr fr9 (by decide)
  have hG := hG.fr fr9 (by decide)
  have fr := fr.tr fr9 (by decide)
  have hp12 : IP G1 12 := ⟨_, _, _, _, po1.1⟩
  have hp13 : IP G1 13 := ⟨_, _, _, _, po2.1⟩
  have c1 := po1.2
  have c2 := po2.2
  refine v_aload_n dX8_gather_11 rfl ?_
  refine v_get fX8_19 dX8_gather_12 h_0 (by decide) rfl ?_
  refine v_iload_n dX8_gather_15 rfl ?_
  refine w_aaldH dX8_gather_16 h_3 hk es ?_
  have hqk := hQ k hk
  rw [es, show 5 + 2 * k = s + 1 from by omega] at hqk
  obtain ⟨f9s, h_s, -⟩ := id hqk
  obtain ⟨sh, hsh⟩ : ∃ sh : Nat, x1 + x2 + 240 = (sh : Int) := ⟨(x1 + x2 + 240).toNat, by omega⟩
  have e9 := e_br (Q := Q k) (na := qn k) (aw := mi) w1 w2 d1 d2 hsh
  refine v_aload_n dX8_gather_17 rfl ?_
  refine v_get fX8_27 dX8_gather_18 h_0 (by decide) rfl ?_
  refine v_aload_n dX8_gather_21 rfl ?_
  refine v_get fX8_31 dX8_gather_22 h_0 (by decide) rfl ?_
  refine v_iload dX8_gather_25 rfl ?_
  refine v_cV (av := [.ref 12, .ref 13, .int (iI (bz mi))]) (st := []) zyX3_bring lX8_162 h_s rfl (p_bring (d := 7) hqk po1.1 po2.1 (by decide) (by omega) (by omega) (by omega) (by omega) hsh) dX8_gather_27 rfl rfl (Nat.le_of_ble_eq_true rfl) (by omega) (Nat.le_of_ble_eq_true rfl) (Nat.le_of_ble_eq_true rfl) (Or.inl (fun _ _ _ q => ZN q)) (fun r9 G2 n9 q9 => ?_)
  obtain ⟨rfl, q9n, hqk, fr8⟩ := q9
  have q9n := q9n.symm
  subst q9n
  rw [e9.1] at hqk
  rw [← es, show 4 + 2 * k + 1 = 5 + 2 * k from by omega] at hqk
  have hQ := HQ.up hQ fr8 (by intro x hx; simp at hx; omega) hqk (by rw [← e9.1]; exact e9.2)
  have fr8 : zFr [4, 5, 6, 7, 8, 9, 10, 11] G1 G2 := fr8.mono (by intro x hx; simp at hx ⊢; omega)
  have h_0 := (fr8 0 (by decide)).trans h_0
  have h_1 := (fr8 1 (by decide)).trans h_1
  have h_2 := (fr8 2 (by decide)).trans h_2
  have h_3 := (fr8 3 (by decide)).trans h_3
  have hp12 := hp12.fr fr8 (by decide)
  have hp13 := hp13.fr fr8 (by decide)
  have hp14 := hp14.fr fr8 (by decide)
  have hA := hA.fr fr8 (by decide)
  have hT := hT.fr fr8 (by decide)
  have hG := hG.fr fr8 (by decide)
  have fr := fr.tr fr8 (by decide)
  exact v_vret dX8_gather_30 trivial (Nat.le_of_ble_eq_true rfl) (Nat.le_of_ble_eq_true rfl) ⟨rfl, rfl, ⟨h_0, h_1, h_2, h_3, hQ, ⟨hp12, hp13, hp14⟩, hA, hT, hG⟩, fr⟩
set_option maxHeartbeats 8000000 in
set_option maxRecDepth 100000 in
theorem p_Hdot {d n tc k a1 a2 m : Nat} {wd pt tf : Nat → Nat} {Q : Nat → Int} {qn : Nat → Bool} {L : List Nat} {h : zH} (hH : HD h wd pt Q qn tf tc L) (hPL : PL wd pt) (hk : k < 4) (h1 : a1 < 32) (h2 : a2 < 32) (hm : m ≤ 32) (hg : m = 0 ∨ (a1 + m ≤ 32 ∧ a2 + m ≤ 32)) (hd : 8 ≤ d) :
    zM yX8_dot cX8_dot 6 none d 0 0 [.ref 0, .int (iI (k:Nat)), .int (iI (a1:Nat)), .int (iI (a2:Nat)), .int (iI (m:Nat))] h n (fun r9 h' n' => r9 = none ∧ n' = n ∧ HD h' wd pt (zup Q k (mdt wd pt (Q k) (qn k) a1 a2 m).1) (zup qn k (mdt wd pt (Q k) (qn k) a1 a2 m).2) tf tc L ∧ zFr HOL h h') := by
  refine zM_of zyX8_dot rfl (Nat.le_of_ble_eq_true rfl) (fun X hX => ?_)
  have fr : zFr HOL h h := zFr.rf
  obtain ⟨s, es⟩ : ∃ s, 4 + 2 * k = s := ⟨_, rfl⟩
  have loop : ∀ (j i : Nat) (H : zH), i + j = m → HD H wd pt (zup Q k (mdt wd pt (Q k) (qn k) a1 a2 i).1) (zup qn k (mdt wd pt (Q k) (qn k) a1 a2 i).2) tf tc L → zFr HOL h H → (zV X (fun r9 h' n' => r9 = none ∧ n' = n ∧ HD h' wd pt (zup Q k (mdt wd pt (Q k) (qn k) a1 a2 m).1) (zup qn k (mdt wd pt (Q k) (qn k) a1 a2 m).2) tf tc L ∧ zFr HOL h h') cX8_dot 6 RX8 none d 0 0 60 [(0, .ref 0), (1, .int (iI (k:Nat))), (2, .int (iI (a1:Nat))), (3, .int (iI (a2:Nat))), (4, .int (iI (m:Nat))), (5, .int (iI (i:Nat)))] [] H n 0 0) := by
    intro j
    induction j with
    | zero =>
      intro i H hj hH fr
      have hi : i = m := by omega
      subst hi
      refine v_iload dX8_dot_60 rfl ?_
      refine v_iload dX8_dot_62 rfl ?_
      refine w_icmp_ge 104 dX8_dot_64 (by decide) (by omega) (by omega) (fun c1 => ?_) (fun c1 => ?_)
      · skip
        exact v_vret dX8_dot_104 trivial (Nat.le_of_ble_eq_true rfl) (Nat.le_of_ble_eq_true rfl) ⟨rfl, rfl, hH, fr⟩
      · exact absurd c1 (by omega)
    | succ j ih =>
      intro i H hj hH fr
      obtain ⟨h_0, h_1, h_2, h_3, hQ, ⟨hp12, hp13, hp14⟩, hA, hT, hG⟩ := id hH
      have w1 := hPL (a1 + i) (by omega)
      have w2 := hPL (a2 + i) (by omega)
      refine v_iload dX8_dot_60 rfl ?_
      refine v_iload dX8_dot_62 rfl ?_
      refine w_icmp_ge 104 dX8_dot_64 (by decide) (by omega) (by omega) (fun c1 => ?_) (fun c1 => ?_)
      · exact absurd c1 (by omega)
      · skip
        refine v_aload_n dX8_dot_67 rfl ?_
        refine v_iload_n dX8_dot_68 rfl ?_
        refine v_iload dX8_dot_69 rfl ?_
        refine w_iadd dX8_dot_71 ?_
        refine w_ei (a1 + i:Nat) (by omega) ?_
        refine v_iload_n dX8_dot_72 rfl ?_
        refine v_iload dX8_dot_73 rfl ?_
        refine w_iadd dX8_dot_75 ?_
        refine w_ei (a2 + i:Nat) (by omega) ?_
        refine v_iload_n dX8_dot_76 rfl ?_
        refine v_cV (av := [.int (iI (a1 + i:Nat)), .int (iI (a2 + i:Nat)), .int (iI (a2:Nat))]) (st := []) zyX8_loadBoth lX8_111 h_0 rfl (p_loadBoth (d := 7) hH hPL (show a1 + i < 32 by omega) (show a2 + i < 32 by omega) h2 (by decide)) dX8_dot_77 rfl rfl (Nat.le_of_ble_eq_true rfl) (by omega) (Nat.le_of_ble_eq_true rfl) (Nat.le_of_ble_eq_true rfl) (Or.inl (fun _ _ _ q => ZN q)) (fun r9 G1 n9 q9 => ?_)
        obtain ⟨rfl, q9n, ⟨s1, x1, s2, x2, po1, d1, po2, d2⟩, fr9⟩ := q9
        have q9n := q9n.symm
        subst q9n
        have h_0 := (fr9 0 (by decide)).trans h_0
        have h_1 := (fr9 1 (by decide)).trans h_1
        have h_2 := (fr9 2 (by decide)).trans h_2
        have h_3 := (fr9 3 (by decide)).trans h_3
        have hQ := hQ.fr fr9 (by decide)
        have hp14 := hp14.fr fr9 (by decide)
        have hA := hA.fr fr9 (by decide)
        have hT := hT.fr fr9 (by decide)
        have hG := hG.fr fr9 (by decide)
        have fr := fr.tr fr9 (by decide)
        have hp12 : IP G1 12 := ⟨_, _, _, _, po1.1⟩
        have hp13 : IP G1 13 := ⟨_, _, _, _, po2.1⟩
        have b1 := po1.2
        have b2 := po2.2
        refine v_aload_n dX8_dot_80 rfl ?_
        refine v_get fX8_19 dX8_dot_81 h_0 (by decide) rfl ?_
        refine v_iload_n dX8_dot_84 rfl ?_
        refine w_aaldH dX8_dot_85 h_3 hk es ?_
        have hqk := hQ k hk
        rw [zup_same, zup_same, es, show 5 + 2 * k = s + 1 from by omega] at hqk
        obtain ⟨f9s, h_s, -⟩ := id hqk
        obtain ⟨sh, hsh⟩ : ∃ sh : Nat, x1 + x2 + 240 = (sh : Int) := ⟨(x1 + x2 + 240).toNat, by omega⟩
        have e9 := e_br (Q := (mdt wd pt (Q k) (qn k) a1 a2 i).1) (na := (mdt wd pt (Q k) (qn k) a1 a2 i).2) (aw := false) w1 w2 d1 d2 hsh
        refine v_aload_n dX8_dot_86 rfl ?_
        refine v_get fX8_27 dX8_dot_87 h_0 (by decide) rfl ?_
        refine v_aload_n dX8_dot_90 rfl ?_
        refine v_get fX8_31 dX8_dot_91 h_0 (by decide) rfl ?_
        refine v_iconst (iI 0) dX8_dot_94 rfl ?_
        refine w_ei (bz false) rfl ?_
        refine v_cV (av := [.ref 12, .ref 13, .int (iI (bz false))]) (st := []) zyX3_bring lX8_162 h_s rfl (p_bring (d := 7) hqk po1.1 po2.1 (by decide) (by omega) (by omega) (by omega) (by omega) hsh) dX8_dot_95 rfl rfl (Nat.le_of_ble_eq_true rfl) (by omega) (Nat.le_of_ble_eq_true rfl) (Nat.le_of_ble_eq_true rfl) (Or.inl (fun _ _ _ q => ZN q)) (fun r9 G2 n9 q9 => ?_)
        obtain ⟨rfl, q9n, hqk, fr8⟩ := q9
        have q9n := q9n.symm
        subst q9n
        rw [e9.1] at hqk
        rw [← es, show 4 + 2 * k + 1 = 5 + 2 * k from by omega] at hqk
        have hQ := HQ.up hQ fr8 (by intro x hx; simp at hx; omega) hqk (by rw [← e9.1]; exact e9.2)
        rw [zup_zup, zup_zup] at hQ
        have fr8 : zFr [4, 5, 6, 7, 8, 9, 10, 11] G1 G2 := fr8.mono (by intro x hx; simp at hx ⊢; omega)
        have h_0 := (fr8 0 (by decide)).trans h_0
        have h_1 := (fr8 1 (by decide)).trans h_1
        have h_2 := (fr8 2 (by decide)).trans h_2
        have h_3 := (fr8 3 (by decide)).trans h_3
        have hp12 := hp12.fr fr8 (by decide)
        have hp13 := hp13.fr fr8 (by decide)
        have hp14 := hp14.fr fr8 (by decide)
        have hA := hA.fr fr8 (by decide)
        have hT := hT.fr fr8 (by decide)
        have hG := hG.fr fr8 (by decide)
        have fr := fr.tr fr8 (by decide)
        refine w_iinc (lv' := [(5, .int (iI ((i:Nat) + 1))), (0, .ref 0), (1, .int (iI (k:Nat))), (2, .int (iI (a1:Nat))), (3, .int (iI (a2:Nat))), (4, .int (iI (m:Nat)))]) dX8_dot_98 rfl (by decide) rfl ?_
        refine w_sub (lv2 := [(0, .ref 0), (1, .int (iI (k:Nat))), (2, .int (iI (a1:Nat))), (3, .int (iI (a2:Nat))), (4, .int (iI (m:Nat))), (5, .int (iI ((i:Nat) + 1)))]) [1, 2, 3, 4, 5, 0] rfl ?_
        refine v_goto 60 dX8_dot_101 (by decide) ?_
        have e1 : (i : Int) + 1 = ((i + 1 : Nat) : Int) := by omega
        rw [e1]
        exact ih (i + 1) G2 (by omega) ⟨h_0, h_1, h_2, h_3, hQ, ⟨hp12, hp13, hp14⟩, hA, hT, hG⟩ fr
  have fin : (zV X (fun r9 h' n' => r9 = none ∧ n' = n ∧ HD h' wd pt (zup Q k (mdt wd pt (Q k) (qn k) a1 a2 m).1) (zup qn k (mdt wd pt (Q k) (qn k) a1 a2 m).2) tf tc L ∧ zFr HOL h h') cX8_dot 6 RX8 none d 0 0 57 [(0, .ref 0), (1, .int (iI (k:Nat))), (2, .int (iI (a1:Nat))), (3, .int (iI (a2:Nat))), (4, .int (iI (m:Nat)))] [] h n 0 0) := by
    refine v_iconst (iI 0) dX8_dot_57 rfl ?_
    refine v_istore (i := 5) (lv' := [(5, .int (iI 0)), (0, .ref 0), (1, .int (iI (k:Nat))), (2, .int (iI (a1:Nat))), (3, .int (iI (a2:Nat))), (4, .int (iI (m:Nat)))]) dX8_dot_58 (by decide) rfl ?_
    refine w_sub (lv2 := [(0, .ref 0), (1, .int (iI (k:Nat))), (2, .int (iI (a1:Nat))), (3, .int (iI (a2:Nat))), (4, .int (iI (m:Nat))), (5, .int (iI 0))]) [1, 2, 3, 4, 5, 0] rfl ?_
    exact loop m 0 h (by omega) (by rw [show (mdt wd pt (Q k) (qn k) a1 a2 0).1 = Q k from rfl, show (mdt wd pt (Q k) (qn k) a1 a2 0).2 = qn k from rfl, zup_id, zup_id]; exact hH) zFr.rf
  refine v_iload_n dX8_dot_0 rfl ?_
  refine v_cS (av := [.int (iI (k:Nat))]) (st := []) zyX8_checkQuire lX8_156 (p_ckQ (d := 7) hk) dX8_dot_1 rfl rfl (Nat.le_of_ble_eq_true rfl) (by omega) (Nat.le_of_ble_eq_true rfl) (Nat.le_of_ble_eq_true rfl) (Or.inl (fun _ _ _ q => ZN q)) (fun r9 K1 n9 q9 => ?_)
  obtain ⟨rfl, q9n, q9h⟩ := q9
  have q9n := q9n.symm
  subst q9n
  have q9h := q9h.symm
  subst q9h
  refine v_iload_n dX8_dot_4 rfl ?_
  refine v_cS (av := [.int (iI (a1:Nat))]) (st := []) zyX8_checkPlace lX8_58 (p_ckP (d := 7) h1) dX8_dot_5 rfl rfl (Nat.le_of_ble_eq_true rfl) (by omega) (Nat.le_of_ble_eq_true rfl) (Nat.le_of_ble_eq_true rfl) (Or.inl (fun _ _ _ q => ZN q)) (fun r9 K2 n9 q9 => ?_)
  obtain ⟨rfl, q9n, q9h⟩ := q9
  have q9n := q9n.symm
  subst q9n
  have q9h := q9h.symm
  subst q9h
  refine v_iload_n dX8_dot_8 rfl ?_
  refine v_cS (av := [.int (iI (a2:Nat))]) (st := []) zyX8_checkPlace lX8_58 (p_ckP (d := 7) h2) dX8_dot_9 rfl rfl (Nat.le_of_ble_eq_true rfl) (by omega) (Nat.le_of_ble_eq_true rfl) (Nat.le_of_ble_eq_true rfl) (Or.inl (fun _ _ _ q => ZN q)) (fun r9 K3 n9 q9 => ?_)
  obtain ⟨rfl, q9n, q9h⟩ := q9
  have q9n := q9n.symm
  subst q9n
  have q9h := q9h.symm
  subst q9h
  refine v_iload dX8_dot_12 rfl ?_
  refine w_if_lt 24 dX8_dot_14 (by decide) (by omega) (fun c1 => ?_) (fun c1 => ?_)
  · exact absurd c1 (by omega)
  · skip
    refine v_iload dX8_dot_17 rfl ?_
    refine v_bipush (iI 32) dX8_dot_19 rfl ?_
    refine w_icmp_le 34 dX8_dot_21 (by decide) (by omega) (by decide) (fun c2 => ?_) (fun c2 => ?_)
    · skip
      refine v_iload dX8_dot_34 rfl ?_
      refine w_if_le 57 dX8_dot_36 (by decide) (by omega) (fun c3 => ?_) (fun c3 => ?_)
      · exact fin
      · skip
        refine v_iload_n dX8_dot_39 rfl ?_
        refine v_iload dX8_dot_40 rfl ?_
        refine w_iadd dX8_dot_42 ?_
        refine v_iconst (iI 1) dX8_dot_43 rfl ?_
        refine w_isub dX8_dot_44 ?_
        refine w_ei (a1 + m - 1 : Nat) (by omega) ?_
        refine v_cS (av := [.int (iI (a1 + m - 1 : Nat))]) (st := []) zyX8_checkPlace lX8_58 (p_ckP (d := 7) (show a1 + m - 1 < 32 by omega)) dX8_dot_45 rfl rfl (Nat.le_of_ble_eq_true rfl) (by omega) (Nat.le_of_ble_eq_true rfl) (Nat.le_of_ble_eq_true rfl) (Or.inl (fun _ _ _ q => ZN q)) (fun r9 K4 n9 q9 => ?_)
        obtain ⟨rfl, q9n, q9h⟩ := q9
        have q9n := q9n.symm
        subst q9n
        have q9h := q9h.symm
        subst q9h
        refine v_iload_n dX8_dot_48 rfl ?_
        refine v_iload dX8_dot_49 rfl ?_
        refine w_iadd dX8_dot_51 ?_
        refine v_iconst (iI 1) dX8_dot_52 rfl ?_
        refine w_isub dX8_dot_53 ?_
        refine w_ei (a2 + m - 1 : Nat) (by omega) ?_
        refine v_cS (av := [.int (iI (a2 + m - 1 : Nat))]) (st := []) zyX8_checkPlace lX8_58 (p_ckP (d := 7) (show a2 + m - 1 < 32 by omega)) dX8_dot_54 rfl rfl (Nat.le_of_ble_eq_true rfl) (by omega) (Nat.le_of_ble_eq_true rfl) (Nat.le_of_ble_eq_true rfl) (Or.inl (fun _ _ _ q => ZN q)) (fun r9 K5 n9 q9 => ?_)
        obtain ⟨rfl, q9n, q9h⟩ := q9
        have q9n := q9n.symm
        subst q9n
        have q9h := q9h.symm
        subst q9h
        exact fin
    · exact absurd c2 (by omega)
set_option maxHeartbeats 8000000 in
set_option maxRecDepth 100000 in
theorem p_Hsettle {d n tc k a3 : Nat} {wd pt tf : Nat → Nat} {Q : Nat → Int} {qn : Nat → Bool} {L : List Nat} {h : zH} (hH : HD h wd pt Q qn tf tc L) (hPL : PL wd pt) (hk : k < 4) (h3 : a3 < 32) (hb : (Q k).natAbs < 2 ^ 511) (hd : 7 ≤ d) :
    zM yX8_settle cX8_settle 3 none d 0 0 [.ref 0, .int (iI (k:Nat)), .int (iI (a3:Nat))] h n (fun r9 h' n' => r9 = none ∧ n' = n ∧ HD h' wd (zup pt a3 (mse wd (Q k) (qn k) a3)) Q qn tf tc L ∧ zFr HOL h h') := by
  obtain ⟨h_0, h_1, h_2, h_3, hQ, ⟨hp12, hp13, hp14⟩, hA, hT, hG⟩ := id hH
  have w3 := hPL a3 h3
  obtain ⟨s, es⟩ : ∃ s, 4 + 2 * k = s := ⟨_, rfl⟩
  refine zM_of zyX8_settle rfl (Nat.le_of_ble_eq_true rfl) (fun X hX => ?_)
  have fr : zFr HOL h h := zFr.rf
  refine v_iload_n dX8_settle_0 rfl ?_
  refine v_cS (av := [.int (iI (k:Nat))]) (st := []) zyX8_checkQuire lX8_156 (p_ckQ (d := 6) hk) dX8_settle_1 rfl rfl (Nat.le_of_ble_eq_true rfl) (by omega) (Nat.le_of_ble_eq_true rfl) (Nat.le_of_ble_eq_true rfl) (Or.inl (fun _ _ _ q => ZN q)) (fun r9 K1 n9 q9 => ?_)
  obtain ⟨rfl, q9n, q9h⟩ := q9
  have q9n := q9n.symm
  subst q9n
  have q9h := q9h.symm
  subst q9h
  refine v_iload_n dX8_settle_4 rfl ?_
  refine v_cS (av := [.int (iI (a3:Nat))]) (st := []) zyX8_checkPlace lX8_58 (p_ckP (d := 6) h3) dX8_settle_5 rfl rfl (Nat.le_of_ble_eq_true rfl) (by omega) (Nat.le_of_ble_eq_true rfl) (Nat.le_of_ble_eq_true rfl) (Or.inl (fun _ _ _ q => ZN q)) (fun r9 K2 n9 q9 => ?_)
  obtain ⟨rfl, q9n, q9h⟩ := q9
  have q9n := q9n.symm
  subst q9n
  have q9h := q9h.symm
  subst q9h
  refine v_aload_n dX8_settle_8 rfl ?_
  refine v_get fX8_13 dX8_settle_9 h_0 (by decide) rfl ?_
  refine v_iload_n dX8_settle_12 rfl ?_
  refine v_aload_n dX8_settle_13 rfl ?_
  refine v_get fX8_40 dX8_settle_14 h_0 (by decide) rfl ?_
  refine v_aload_n dX8_settle_17 rfl ?_
  refine v_get fX8_19 dX8_settle_18 h_0 (by decide) rfl ?_
  refine v_iload_n dX8_settle_21 rfl ?_
  refine w_aaldH dX8_settle_22 h_3 hk es ?_
  have hqk := hQ k hk
  rw [es, show 5 + 2 * k = s + 1 from by omega] at hqk
  obtain ⟨h_15, -, -, ⟨u0, hU⟩, -⟩ := id hA
  refine v_aload_n dX8_settle_23 rfl ?_
  refine v_get fX8_9 dX8_settle_24 h_0 (by decide) rfl ?_
  refine v_iload_n dX8_settle_27 rfl ?_
  refine w_nald dX8_settle_28 h_1 a3 (by omega) (by omega) (by decide) ?_
  have e9 : stl (wd a3) (qn k) (q512 (Q k)) = mse wd (Q k) (qn k) a3 := by
    unfold mse
    cases qn k with
    | true => rfl
    | false => exact e_st ⟨w3.1, w3.2.1⟩ hb
  refine v_cV (av := [.ref s, .int (iI (wd a3 : Nat))]) (st := [.int (iI (a3:Nat)), .ref 2]) zyX0_settled lX8_168 h_15 rfl (p_settled (d := 6) h_15 hU hqk (by omega) (by decide) (by omega)) dX8_settle_29 rfl rfl (Nat.le_of_ble_eq_true rfl) (by omega) (Nat.le_of_ble_eq_true rfl) (Nat.le_of_ble_eq_true rfl) (Or.inl (fun _ _ _ q => ZN q)) (fun r9 G2 n9 q9 => ?_)
  obtain ⟨rfl, q9n, hv9, fr8⟩ := q9
  have q9n := q9n.symm
  subst q9n
  have hA := hA.u fr8 hv9
  have h_0 := (fr8 0 (by decide)).trans h_0
  have h_1 := (fr8 1 (by decide)).trans h_1
  have h_2 := (fr8 2 (by decide)).trans h_2
  have h_3 := (fr8 3 (by decide)).trans h_3
  have hQ := hQ.fr fr8 (by decide)
  have hp12 := hp12.fr fr8 (by decide)
  have hp13 := hp13.fr fr8 (by decide)
  have hp14 := hp14.fr fr8 (by decide)
  have hT := hT.fr fr8 (by decide)
  have hG := hG.fr fr8 (by decide)
  have fr := fr.tr fr8 (by decide)
  refine w_el (mse wd (Q k) (qn k) a3 : Nat) (congrArg Nat.cast e9) ?_
  refine w_mast dX8_settle_32 h_2 a3 (by omega) (by omega) (by decide) (mse wd (Q k) (qn k) a3) rfl (fun H1 eH1 => ?_)
  obtain ⟨F1, eF1⟩ : ∃ zz9, zz9 = zup pt a3 (mse wd (Q k) (qn k) a3) := ⟨_, rfl⟩
  rw [← eF1] at eH1
  have h_2 : H1 2 = aM 32 F1 := zf_same eH1
  have h_0 := (zf_ne eH1 (by decide)).trans h_0
  have h_1 := (zf_ne eH1 (by decide)).trans h_1
  have fr := fr.put eH1 (by simp)
  have fz : zFr [2] G2 H1 := zFr.put zFr.rf eH1 (by simp)
  have h_3 := (fz 3 (by decide)).trans h_3
  have hQ := hQ.fr fz (by decide)
  have hp12 := hp12.fr fz (by decide)
  have hp13 := hp13.fr fz (by decide)
  have hp14 := hp14.fr fz (by decide)
  have hA := hA.fr fz (by decide)
  have hT := hT.fr fz (by decide)
  have hG := hG.fr fz (by decide)
  rw [eF1] at h_2
  exact v_vret dX8_settle_33 trivial (Nat.le_of_ble_eq_true rfl) (Nat.le_of_ble_eq_true rfl) ⟨rfl, rfl, ⟨h_0, h_1, h_2, h_3, hQ, ⟨hp12, hp13, hp14⟩, hA, hT, hG⟩, fr⟩
set_option maxHeartbeats 8000000 in
set_option maxRecDepth 100000 in
theorem p_Himage {d n tc k i : Nat} {wd pt tf : Nat → Nat} {Q : Nat → Int} {qn : Nat → Bool} {L : List Nat} {h : zH} (hH : HD h wd pt Q qn tf tc L) (hk : k < 4) (hi : i < 16) (hd : 7 ≤ d) :
    zM yX8_image cX8_image 3 (some .int) d 0 0 [.ref 0, .int (iI (k:Nat)), .int (iI (i:Nat))] h n (fun r9 h' n' => r9 = some (.int (iI (cond (qn k) (if i = 15 then -2147483648 else 0) (wat (q512 (Q k)) i : Nat)))) ∧ n' = n ∧ HD h' wd pt Q qn tf tc L ∧ zFr HOL h h') := by
  obtain ⟨h_0, h_1, h_2, h_3, hQ, ⟨hp12, hp13, hp14⟩, hA, hT, hG⟩ := id hH
  obtain ⟨s, es⟩ : ∃ s, 4 + 2 * k = s := ⟨_, rfl⟩
  refine zM_of zyX8_image rfl (Nat.le_of_ble_eq_true rfl) (fun X hX => ?_)
  have fr : zFr HOL h h := zFr.rf
  refine v_iload_n dX8_image_0 rfl ?_
  refine v_cS (av := [.int (iI (k:Nat))]) (st := []) zyX8_checkQuire lX8_156 (p_ckQ (d := 6) hk) dX8_image_1 rfl rfl (Nat.le_of_ble_eq_true rfl) (by omega) (Nat.le_of_ble_eq_true rfl) (Nat.le_of_ble_eq_true rfl) (Or.inl (fun _ _ _ q => ZN q)) (fun r9 K1 n9 q9 => ?_)
  obtain ⟨rfl, q9n, q9h⟩ := q9
  have q9n := q9n.symm
  subst q9n
  have q9h := q9h.symm
  subst q9h
  refine v_iload_n dX8_image_4 rfl ?_
  refine w_if_lt 14 dX8_image_5 (by decide) (by omega) (fun c1 => ?_) (fun c1 => ?_)
  · exact absurd c1 (by omega)
  · skip
    refine v_iload_n dX8_image_8 rfl ?_
    refine v_bipush (iI 16) dX8_image_9 rfl ?_
    refine w_icmp_lt 24 dX8_image_11 (by decide) (by omega) (by decide) (fun c2 => ?_) (fun c2 => ?_)
    · skip
      refine v_aload_n dX8_image_24 rfl ?_
      refine v_get fX8_19 dX8_image_25 h_0 (by decide) rfl ?_
      refine v_iload_n dX8_image_28 rfl ?_
      refine w_aaldH dX8_image_29 h_3 hk es ?_
      have hqk := hQ k hk
      rw [es] at hqk
      obtain ⟨f9s, h_s, -⟩ := id hqk
      refine v_iload_n dX8_image_30 rfl ?_
      refine v_cV (av := [.int (iI (i:Nat))]) (st := []) zyX3_wordOfImage lX8_174 h_s rfl (p_wordOfImage (d := 6) hqk hi) dX8_image_31 rfl rfl (Nat.le_of_ble_eq_true rfl) (by omega) (Nat.le_of_ble_eq_true rfl) (Nat.le_of_ble_eq_true rfl) (Or.inl (fun _ _ _ q => ZN q)) (fun r9 K2 n9 q9 => ?_)
      obtain ⟨rfl, q9n, q9h⟩ := q9
      have q9n := q9n.symm
      subst q9n
      have q9h := q9h.symm
      subst q9h
      exact v_iret dX8_image_34 trivial (Nat.le_of_ble_eq_true rfl) (Nat.le_of_ble_eq_true rfl) ⟨rfl, rfl, hH, fr⟩
    · exact absurd c2 (by omega)
theorem rk_mod {p w : Nat} (hw : 3 ≤ w ∧ w ≤ 32) (hp : p < 2 ^ w) : (((p : Nat) : Int) * ((2 : Int) ^ (64 - w))) % 18446744073709551616 = rk p w % 18446744073709551616 := by
  unfold rk
  rw [ipw]
  by_cases c : p < 2 ^ (w - 1)
  · rw [if_pos c]
    have : ((p * 2 ^ (64 - w) : Nat) : Int) = (p : Int) * ((2 ^ (64 - w) : Nat) : Int) := Int.natCast_mul _ _
    rw [this]
  · rw [if_neg c]
    have e : (2 ^ w - p) * 2 ^ (64 - w) + p * 2 ^ (64 - w) = 18446744073709551616 := by
      rw [← Nat.add_mul, show 2 ^ w - p + p = 2 ^ w from by omega, ← Nat.pow_add, show w + (64 - w) = 64 from by omega]
    have e2 : (((2 ^ w - p) * 2 ^ (64 - w) : Nat) : Int) + ((p * 2 ^ (64 - w) : Nat) : Int) = 18446744073709551616 := by omega
    have : ((p * 2 ^ (64 - w) : Nat) : Int) = (p : Int) * ((2 ^ (64 - w) : Nat) : Int) := Int.natCast_mul _ _
    rw [← this]
    omega
set_option maxHeartbeats 8000000 in
set_option maxRecDepth 100000 in
theorem p_Hrank {d n tc a1 : Nat} {wd pt tf : Nat → Nat} {Q : Nat → Int} {qn : Nat → Bool} {L : List Nat} {h : zH} (hH : HD h wd pt Q qn tf tc L) (hPL : PL wd pt) (h1 : a1 < 32) :
    zM yX8_rank cX8_rank 2 (some .long) d 0 0 [.ref 0, .int (iI (a1:Nat))] h n (fun r9 h' n' => r9 = some (.long (jL (rk (pt a1) (wd a1)))) ∧ n' = n ∧ h' = h) := by
  obtain ⟨h_0, h_1, h_2, h_3, hQ, ⟨hp12, hp13, hp14⟩, hA, hT, hG⟩ := id hH
  have w1 := hPL a1 h1
  refine zM_of zyX8_rank rfl (Nat.le_of_ble_eq_true rfl) (fun X hX => ?_)
  refine v_aload_n dX8_rank_0 rfl ?_
  refine v_get fX8_13 dX8_rank_1 h_0 (by decide) rfl ?_
  refine v_iload_n dX8_rank_4 rfl ?_
  refine w_mald dX8_rank_5 h_2 a1 (by omega) (by omega) (by decide) ?_
  refine v_bipush (iI 64) dX8_rank_6 rfl ?_
  refine v_aload_n dX8_rank_8 rfl ?_
  refine v_get fX8_9 dX8_rank_9 h_0 (by decide) rfl ?_
  refine v_iload_n dX8_rank_12 rfl ?_
  refine w_nald dX8_rank_13 h_1 a1 (by omega) (by omega) (by decide) ?_
  refine w_isub dX8_rank_14 ?_
  refine w_lshl dX8_rank_15 (64 - wd a1) (2 ^ (64 - wd a1)) rfl (by omega) (by omega) ?_
  refine w_topl (rk (pt a1) (wd a1)) (rk_mod ⟨w1.1, w1.2.1⟩ w1.2.2) ?_
  exact v_lret dX8_rank_16 trivial (Nat.le_of_ble_eq_true rfl) (Nat.le_of_ble_eq_true rfl) ⟨rfl, rfl, rfl⟩
set_option maxHeartbeats 8000000 in
set_option maxRecDepth 100000 in
theorem p_Horder {d n tc a1 a2 : Nat} {wd pt tf : Nat → Nat} {Q : Nat → Int} {qn : Nat → Bool} {L : List Nat} {h : zH} (hH : HD h wd pt Q qn tf tc L) (hPL : PL wd pt) (h1 : a1 < 32) (h2 : a2 < 32) (hd : 7 ≤ d) :
    zM yX8_order cX8_order 3 (some .int) d 0 0 [.ref 0, .int (iI (a1:Nat)), .int (iI (a2:Nat))] h n (fun r9 h' n' => r9 = some (.int (iI (mor wd pt a1 a2))) ∧ n' = n ∧ HD h' wd pt Q qn tf tc L ∧ zFr HOL h h') := by
  obtain ⟨h_0, h_1, h_2, h_3, hQ, ⟨hp12, hp13, hp14⟩, hA, hT, hG⟩ := id hH
  have w1 := hPL a1 h1
  have w2 := hPL a2 h2
  have b1 := rk_b ⟨w1.1, w1.2.1⟩ w1.2.2
  have b2 := rk_b ⟨w2.1, w2.2.1⟩ w2.2.2
  refine zM_of zyX8_order rfl (Nat.le_of_ble_eq_true rfl) (fun X hX => ?_)
  have fr : zFr HOL h h := zFr.rf
  refine v_iload_n dX8_order_0 rfl ?_
  refine v_cS (av := [.int (iI (a1:Nat))]) (st := []) zyX8_checkPlace lX8_58 (p_ckP (d := 6) h1) dX8_order_1 rfl rfl (Nat.le_of_ble_eq_true rfl) (by omega) (Nat.le_of_ble_eq_true rfl) (Nat.le_of_ble_eq_true rfl) (Or.inl (fun _ _ _ q => ZN q)) (fun r9 K1 n9 q9 => ?_)
  obtain ⟨rfl, q9n, q9h⟩ := q9
  have q9n := q9n.symm
  subst q9n
  have q9h := q9h.symm
  subst q9h
  refine v_iload_n dX8_order_4 rfl ?_
  refine v_cS (av := [.int (iI (a2:Nat))]) (st := []) zyX8_checkPlace lX8_58 (p_ckP (d := 6) h2) dX8_order_5 rfl rfl (Nat.le_of_ble_eq_true rfl) (by omega) (Nat.le_of_ble_eq_true rfl) (Nat.le_of_ble_eq_true rfl) (Or.inl (fun _ _ _ q => ZN q)) (fun r9 K2 n9 q9 => ?_)
  obtain ⟨rfl, q9n, q9h⟩ := q9
  have q9n := q9n.symm
  subst q9n
  have q9h := q9h.symm
  subst q9h
  refine v_aload_n dX8_order_8 rfl ?_
  refine v_iload_n dX8_order_9 rfl ?_
  refine v_cV (av := [.int (iI (a1:Nat))]) (st := []) zyX8_rank lX8_102 h_0 rfl (p_Hrank (d := 6) hH hPL h1) dX8_order_10 rfl rfl (Nat.le_of_ble_eq_true rfl) (by omega) (Nat.le_of_ble_eq_true rfl) (Nat.le_of_ble_eq_true rfl) (Or.inl (fun _ _ _ q => ZN q)) (fun r9 K3 n9 q9 => ?_)
  obtain ⟨rfl, q9n, q9h⟩ := q9
  have q9n := q9n.symm
  subst q9n
  have q9h := q9h.symm
  subst q9h
  refine v_aload_n dX8_order_13 rfl ?_
  refine v_iload_n dX8_order_14 rfl ?_
  refine v_cV (av := [.int (iI (a2:Nat))]) (st := [.long (jL (rk (pt a1) (wd a1)))]) zyX8_rank lX8_102 h_0 rfl (p_Hrank (d := 6) hH hPL h2) dX8_order_15 rfl rfl (Nat.le_of_ble_eq_true rfl) (by omega) (Nat.le_of_ble_eq_true rfl) (Nat.le_of_ble_eq_true rfl) (Or.inl (fun _ _ _ q => ZN q)) (fun r9 K4 n9 q9 => ?_)
  obtain ⟨rfl, q9n, q9h⟩ := q9
  have q9n := q9n.symm
  subst q9n
  have q9h := q9h.symm
  subst q9h
  refine v_cS (av := [.long (jL (rk (pt a1) (wd a1))), .long (jL (rk (pt a2) (wd a2)))]) (st := []) zyJ13_compare_74951 lX8_105 (p_cmpL (d := 6) ⟨b1.1, b1.2.1⟩ ⟨b2.1, b2.2.1⟩) dX8_order_18 rfl rfl (Nat.le_of_ble_eq_true rfl) (by omega) (Nat.le_of_ble_eq_true rfl) (Nat.le_of_ble_eq_true rfl) (Or.inl (fun _ _ _ q => ZN q)) (fun r9 K5 n9 q9 => ?_)
  obtain ⟨rfl, q9n, q9h⟩ := q9
  have q9n := q9n.symm
  subst q9n
  have q9h := q9h.symm
  subst q9h
  refine w_ei (mor wd pt a1 a2) (e_or ⟨w1.1, w1.2.1⟩ w1.2.2 ⟨w2.1, w2.2.1⟩ w2.2.2) ?_
  exact v_iret dX8_order_21 trivial (Nat.le_of_ble_eq_true rfl) (Nat.le_of_ble_eq_true rfl) ⟨rfl, rfl, hH, fr⟩
set_option maxHeartbeats 8000000 in
set_option maxRecDepth 100000 in
theorem p_Hletter {d n tc : Nat} {wd pt tf : Nat → Nat} {Q : Nat → Int} {qn : Nat → Bool} {L : List Nat} {i : Int} {h : zH} (hH : HD h wd pt Q qn tf tc L) (hr_i : -2147483648 ≤ i ∧ i < 2147483648) (hd : 7 ≤ d) :
    zM yX8_letter cX8_letter 2 (some .int) d 0 0 [.ref 0, .int (iI i)] h n (fun r9 h' n' => r9 = some (.int (iI (mlt L i))) ∧ n' = n ∧ HD h' wd pt Q qn tf tc L ∧ zFr HOL h h') := by
  obtain ⟨h_0, h_1, h_2, h_3, hQ, ⟨hp12, hp13, hp14⟩, hA, hT, hG⟩ := id hH
  obtain ⟨⟨ob, oa, ev, tens, hp⟩, -⟩ := id hG
  obtain ⟨f, h_34, h_35, hbb, htx, hL9⟩ := id hp
  refine zM_of zyX8_letter rfl (Nat.le_of_ble_eq_true rfl) (fun X hX => ?_)
  have fr : zFr HOL h h := zFr.rf
  have bad : ¬ (0 ≤ i ∧ i < (L.length : Nat)) → (zV X (fun r9 h' n' => r9 = some (.int (iI (mlt L i))) ∧ n' = n ∧ HD h' wd pt Q qn tf tc L ∧ zFr HOL h h') cX8_letter 2 RX8 (some .int) d 0 0 26 [(0, .ref 0), (1, .int (iI i))] [] h n 0 0) := by
    intro hn
    have em : -1 = mlt L i := by
      unfold mlt
      by_cases c : 0 ≤ i
      · rw [if_pos c, List.getElem?_eq_none (by omega)]
      · rw [if_neg c]
    refine v_iconst (iI (-1)) dX8_letter_26 rfl ?_
    refine w_ei (mlt L i) em ?_
    exact v_iret dX8_letter_27 trivial (Nat.le_of_ble_eq_true rfl) (Nat.le_of_ble_eq_true rfl) ⟨rfl, rfl, hH, fr⟩
  refine v_iload_n dX8_letter_0 rfl ?_
  refine w_if_lt 26 dX8_letter_1 (by decide) (by omega) (fun c1 => ?_) (fun c1 => ?_)
  · exact bad (by omega)
  · skip
    refine v_iload_n dX8_letter_4 rfl ?_
    refine v_aload_n dX8_letter_5 rfl ?_
    refine v_get fX8_54 dX8_letter_6 h_0 (by decide) rfl ?_
    refine v_get fX8_229 dX8_letter_9 h_34 (by decide) rfl ?_
    refine w_icmp_ge 26 dX8_letter_12 (by decide) (by omega) (by omega) (fun c2 => ?_) (fun c2 => ?_)
    · exact bad (by omega)
    · obtain ⟨j, ej⟩ : ∃ j : Nat, i = j := ⟨i.toNat, by omega⟩
      have hj : j < L.length := by omega
      have em : ((L[j]?.getD 0 : Nat) : Int) = mlt L i := by
        unfold mlt
        rw [if_pos (by omega), ej, Int.toNat_natCast, List.getElem?_eq_getElem hj]
        rfl
      refine v_aload_n dX8_letter_15 rfl ?_
      refine v_get fX8_54 dX8_letter_16 h_0 (by decide) rfl ?_
      refine v_iload_n dX8_letter_19 rfl ?_
      refine w_ei (j:Nat) (by omega) ?_
      refine v_cV (av := [.int (iI (j:Nat))]) (st := []) zyX1_byteAt lX8_230 h_34 rfl (p_byteAt (d := 6) hp hj) dX8_letter_20 rfl rfl (Nat.le_of_ble_eq_true rfl) (by omega) (Nat.le_of_ble_eq_true rfl) (Nat.le_of_ble_eq_true rfl) (Or.inl (fun _ _ _ q => ZN q)) (fun r9 K1 n9 q9 => ?_)
      obtain ⟨rfl, q9n, q9h⟩ := q9
      have q9n := q9n.symm
      subst q9n
      have q9h := q9h.symm
      subst q9h
      refine w_ei (mlt L i) em ?_
      refine v_goto 27 dX8_letter_23 (by decide) ?_
      exact v_iret dX8_letter_27 trivial (Nat.le_of_ble_eq_true rfl) (Nat.le_of_ble_eq_true rfl) ⟨rfl, rfl, hH, fr⟩
set_option maxHeartbeats 8000000 in
set_option maxRecDepth 100000 in
theorem p_Hwhole {d n tc a1 : Nat} {wd pt tf : Nat → Nat} {Q : Nat → Int} {qn : Nat → Bool} {L : List Nat} {h : zH} (hH : HD h wd pt Q qn tf tc L) (hPL : PL wd pt) (h1 : a1 < 32) (hx : mwB (pt a1) (wd a1) = false) (hd : 7 ≤ d) :
    zM yX8_whole cX8_whole 2 (some .long) d 0 0 [.ref 0, .int (iI (a1:Nat))] h n (fun r9 h' n' => r9 = some (.long (jL (sgI (pvI (pt a1) (wd a1)) * (mwv 3 (pvI (pt a1) (wd a1)) : Nat)))) ∧ n' = n ∧ HD h' wd pt Q qn tf tc L ∧ zFr HOL h h') := by
  obtain ⟨h_0, h_1, h_2, h_3, hQ, ⟨hp12, hp13, hp14⟩, hA, hT, hG⟩ := id hH
  have w1 := hPL a1 h1
  refine zM_of zyX8_whole rfl (Nat.le_of_ble_eq_true rfl) (fun X hX => ?_)
  have fr : zFr HOL h h := zFr.rf
  refine v_iload_n dX8_whole_0 rfl ?_
  refine v_cS (av := [.int (iI (a1:Nat))]) (st := []) zyX8_checkPlace lX8_58 (p_ckP (d := 6) h1) dX8_whole_1 rfl rfl (Nat.le_of_ble_eq_true rfl) (by omega) (Nat.le_of_ble_eq_true rfl) (Nat.le_of_ble_eq_true rfl) (Or.inl (fun _ _ _ q => ZN q)) (fun r9 K1 n9 q9 => ?_)
  obtain ⟨rfl, q9n, q9h⟩ := q9
  have q9n := q9n.symm
  subst q9n
  have q9h := q9h.symm
  subst q9h
  refine v_aload_n dX8_whole_4 rfl ?_
  refine v_get fX8_27 dX8_whole_5 h_0 (by decide) rfl ?_
  refine v_aload_n dX8_whole_8 rfl ?_
  refine v_get fX8_13 dX8_whole_9 h_0 (by decide) rfl ?_
  refine v_iload_n dX8_whole_12 rfl ?_
  refine w_mald dX8_whole_13 h_2 a1 (by omega) (by omega) (by decide) ?_
  refine v_aload_n dX8_whole_14 rfl ?_
  refine v_get fX8_9 dX8_whole_15 h_0 (by decide) rfl ?_
  refine v_iload_n dX8_whole_18 rfl ?_
  refine w_nald dX8_whole_19 h_1 a1 (by omega) (by omega) (by decide) ?_
  obtain ⟨na2, mi2, s2, x2, h_12⟩ := hp12
  refine v_cV (av := [.long (jL (pt a1 : Nat)), .int (iI (wd a1 : Nat))]) (st := []) zyX2_load lX8_71 h_12 rfl (p_load (d := 6) h_12 (by decide) (by omega) w1.2.2) dX8_whole_20 rfl rfl (Nat.le_of_ble_eq_true rfl) (by omega) (Nat.le_of_ble_eq_true rfl) (Nat.le_of_ble_eq_true rfl) (Or.inl (fun _ _ _ q => ZN q)) (fun r9 G1 n9 q9 => ?_)
  obtain ⟨rfl, q9n, ⟨sa, xa, h_12, da⟩, fr9⟩ := q9
  have q9n := q9n.symm
  subst q9n
  have h_0 := (fr9 0 (by decide)).trans h_0
  have h_1 := (fr9 1 (by decide)).trans h_1
  have h_2 := (fr9 2 (by decide)).trans h_2
  have h_3 := (fr9 3 (by decide)).trans h_3
  have hQ := hQ.fr fr9 (by decide)
  have hp13 := hp13.fr fr9 (by decide)
  have hp14 := hp14.fr fr9 (by decide)
  have hA := hA.fr fr9 (by decide)
  have hT := hT.fr fr9 (by decide)
  have hG := hG.fr fr9 (by decide)
  have fr := fr.tr fr9 (by decide)
  have hp12 : IP G1 12 := ⟨_, _, _, _, h_12⟩
  have b1 := pd_b ⟨w1.1, w1.2.1⟩ w1.2.2 da
  have ew := (e_wh ⟨w1.1, w1.2.1⟩ w1.2.2 da)
  have ew1 := ew.1
  rw [hx, Bool.or_eq_false_iff] at ew1
  have ew2 := ew.2 (of_decide_eq_false ew1.1)
  refine v_aload_n dX8_whole_23 rfl ?_
  refine v_get fX8_27 dX8_whole_24 h_0 (by decide) rfl ?_
  refine v_get fX8_83 dX8_whole_27 h_12 (by decide) rfl ?_
  refine w_ifb_ne 43 dX8_whole_30 (by decide) (fun c1 => ?_) (fun c1 => ?_)
  · rw [ew1.1] at c1
    exact absurd c1 (by decide)
  · skip
    refine v_aload_n dX8_whole_33 rfl ?_
    refine v_get fX8_27 dX8_whole_34 h_0 (by decide) rfl ?_
    refine v_cV (av := []) (st := []) zyX2_passesLong lX8_87 h_12 rfl (p_passesLong (d := 6) h_12 (by decide) (by omega) (by omega)) dX8_whole_37 rfl rfl (Nat.le_of_ble_eq_true rfl) (by omega) (Nat.le_of_ble_eq_true rfl) (Nat.le_of_ble_eq_true rfl) (Or.inl (fun _ _ _ q => ZN q)) (fun r9 K2 n9 q9 => ?_)
    obtain ⟨rfl, q9n, q9h⟩ := q9
    have q9n := q9n.symm
    subst q9n
    have q9h := q9h.symm
    subst q9h
    refine w_ifb_eq 53 dX8_whole_40 (by decide) (fun c2 => ?_) (fun c2 => ?_)
    · skip
      refine v_aload_n dX8_whole_53 rfl ?_
      refine v_get fX8_27 dX8_whole_54 h_0 (by decide) rfl ?_
      have hx9 : xa ≤ 63 := by
        have y := of_decide_eq_false ew1.2
        by_cases z : sa = 0
        · have : xa = 0 := by
            unfold pd at da
            by_cases z0 : pt a1 = 0 ∨ pt a1 = 2 ^ (wd a1 - 1)
            · rw [if_pos z0] at da; exact da.2
            · rw [if_neg z0] at da
              have hg := (ld_b ⟨w1.1, by omega⟩ (pm_b ⟨w1.1, w1.2.1⟩ w1.2.2 (fun q => z0 (Or.inl q)) (fun q => z0 (Or.inr q))).1 (pm_b ⟨w1.1, w1.2.1⟩ w1.2.2 (fun q => z0 (Or.inl q)) (fun q => z0 (Or.inr q))).2 (by omega) da).1
              omega
          omega
        · have := nb_pos z
          omega
      refine v_cV (av := []) (st := []) zyX2_nearestLong lX8_98 h_12 rfl (p_nearestLong (d := 6) h_12 (by decide) (by omega) (by omega)) dX8_whole_57 rfl rfl (Nat.le_of_ble_eq_true rfl) (by omega) (Nat.le_of_ble_eq_true rfl) (Nat.le_of_ble_eq_true rfl) (Or.inl (fun _ _ _ q => ZN q)) (fun r9 K3 n9 q9 => ?_)
      obtain ⟨rfl, q9n, q9h⟩ := q9
      have q9n := q9n.symm
      subst q9n
      have q9h := q9h.symm
      subst q9h
      refine w_el (sgI (pvI (pt a1) (wd a1)) * (mwv 3 (pvI (pt a1) (wd a1)) : Nat)) ew2 ?_
      exact v_lret dX8_whole_60 trivial (Nat.le_of_ble_eq_true rfl) (Nat.le_of_ble_eq_true rfl) ⟨rfl, rfl, ⟨h_0, h_1, h_2, h_3, hQ, ⟨hp12, hp13, hp14⟩, hA, hT, hG⟩, fr⟩
    · rw [ew1.2] at c2
      exact absurd c2 (by decide)
