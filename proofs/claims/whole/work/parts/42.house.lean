/-! The House: its state, checks, loads -/
abbrev oHouse (a b c d e f g i j : Nat) : zC := .inr (7, [.ref a, .ref b, .ref c, .ref d, .ref e, .ref f, .ref g, .ref i, .ref j])
abbrev HOL : List Nat := [0, 1, 2, 3, 4, 5, 6, 7, 8, 9, 10, 11, 12, 13, 14, 15, 16, 17, 18, 19, 20, 21, 22, 23, 24, 25, 26, 27, 28, 29, 30, 31, 32, 33, 34, 35, 36, 37, 38, 39, 40, 41, 42, 43, 44, 45, 46]
/-- the four quires -/
def HQ (h : zH) (Q : Nat → Int) (qn : Nat → Bool) : Prop := ∀ k, k < 4 → QD h (4 + 2 * k) (5 + 2 * k) (qn k) (q512 (Q k))
theorem HQ.fr {h h' : zH} {Q : Nat → Int} {qn : Nat → Bool} {S : List Nat} (q : HQ h Q qn) (f : zFr S h h') (hs : ∀ x ∈ S, x < 4 ∨ 11 < x) : HQ h' Q qn := fun k hk => (q k hk).fr f (fun z => by have := hs _ z; omega) (fun z => by have := hs _ z; omega)
def IP (h : zH) (a : Nat) : Prop := ∃ na mi s x, h a = oPosit na mi s x
theorem IP.fr {h h' : zH} {a : Nat} {S : List Nat} (q : IP h a) (f : zFr S h h') (ha : a ∉ S) : IP h' a := by
  obtain ⟨na, mi, s, x, e⟩ := q
  exact ⟨na, mi, s, x, (f a ha).trans e⟩
def TPx (h : zH) (f : Nat → Nat) (c : Nat) : Prop := ∃ (i tk : Nat) (tens : Int) (mi na : Bool) (D : Nat), TP h f c i tk tens mi na D
theorem TPx.fr {h h' : zH} {f : Nat → Nat} {c : Nat} {S : List Nat} (q : TPx h f c) (g : zFr S h h') (hs : ∀ x ∈ S, x < 30 ∨ 33 < x) : TPx h' f c := by
  obtain ⟨i, tk, tens, mi, na, D, h1, h2, h3⟩ := q
  exact ⟨i, tk, tens, mi, na, D, (g 30 (fun z => by have := hs _ z; omega)).trans h1, (g 31 (fun z => by have := hs _ z; omega)).trans h2, h3.fr g (fun z => by have := hs _ z; omega) (fun z => by have := hs _ z; omega)⟩
theorem PG.fr {h h' : zH} {L : List Nat} {S : List Nat} (q : PG h L) (g : zFr S h h') (hs : ∀ x ∈ S, x < 34 ∨ 46 < x) : PG h' L := by
  obtain ⟨⟨ob, oa, ev, tens, hp⟩, ⟨v1, h1⟩, ⟨v2, h2⟩, ⟨v3, h3⟩, ⟨v4, h4⟩, ⟨v5, h5⟩, na, mi, s, x, h6⟩ := q
  have k : ∀ y, 34 ≤ y → y ≤ 46 → y ∉ S := fun y a b z => by have := hs y z; omega
  exact ⟨⟨ob, oa, ev, tens, hp.fr g (k _ (by decide) (by decide)) (k _ (by decide) (by decide))⟩, ⟨v1, h1.fr g (k _ (by decide) (by decide)) (k _ (by decide) (by decide))⟩, ⟨v2, h2.fr g (k _ (by decide) (by decide)) (k _ (by decide) (by decide))⟩, ⟨v3, h3.fr g (k _ (by decide) (by decide)) (k _ (by decide) (by decide))⟩, ⟨v4, h4.fr g (k _ (by decide) (by decide)) (k _ (by decide) (by decide))⟩, ⟨v5, h5.fr g (k _ (by decide) (by decide)) (k _ (by decide) (by decide))⟩, na, mi, s, x, (g 36 (k _ (by decide) (by decide))).trans h6⟩
/-- the class's whole state -/
def HD (h : zH) (wd pt : Nat → Nat) (Q : Nat → Int) (qn : Nat → Bool) (tf : Nat → Nat) (tc : Nat) (L : List Nat) : Prop :=
  h 0 = oHouse 1 2 3 12 13 14 15 30 34 ∧ h 1 = aN 32 wd ∧ h 2 = aM 32 pt ∧ h 3 = oQarr (fun k => if k < 4 then some (4 + 2 * k) else none) "PositHouse$Quire" ∧ HQ h Q qn ∧ (IP h 12 ∧ IP h 13 ∧ IP h 14) ∧ AC h ∧ TPx h tf tc ∧ PG h L
theorem HD.fr {h h' : zH} {wd pt tf : Nat → Nat} {Q : Nat → Int} {qn : Nat → Bool} {L : List Nat} {tc : Nat} {S : List Nat} (q : HD h wd pt Q qn tf tc L) (g : zFr S h h') (hs : ∀ x ∈ S, 46 < x) : HD h' wd pt Q qn tf tc L := by
  obtain ⟨h_0, h_1, h_2, h_3, hQ, ⟨hp12, hp13, hp14⟩, hA, hT, hG⟩ := q
  have k : ∀ y, y ≤ 46 → y ∉ S := fun y a z => by have := hs y z; omega
  exact ⟨(g 0 (k _ (by decide))).trans h_0, (g 1 (k _ (by decide))).trans h_1, (g 2 (k _ (by decide))).trans h_2, (g 3 (k _ (by decide))).trans h_3, hQ.fr g (fun x z => by have := hs x z; omega), ⟨hp12.fr g (k _ (by decide)), hp13.fr g (k _ (by decide)), hp14.fr g (k _ (by decide))⟩, hA.fr g (fun x z => by have := hs x z; omega), hT.fr g (fun x z => by have := hs x z; omega), hG.fr g (fun x z => by have := hs x z; omega)⟩
theorem p_ckP {d n a : Nat} {h : zH} (ha : a < 32) :
    zM yX8_checkPlace cX8_checkPlace 1 none d 0 0 [.int (iI (a:Nat))] h n (fun r h' n' => r = none ∧ n' = n ∧ h' = h) := by
  refine zM_of zyX8_checkPlace rfl (Nat.le_of_ble_eq_true rfl) (fun X hX => ?_)
  refine v_iload_n dX8_checkPlace_0 rfl ?_
  refine w_if_lt 10 dX8_checkPlace_1 (by decide) (by omega) (fun c1 => ?_) (fun c1 => ?_)
  · exact absurd c1 (by omega)
  · skip
    refine v_iload_n dX8_checkPlace_4 rfl ?_
    refine v_bipush (iI 32) dX8_checkPlace_5 rfl ?_
    refine w_icmp_lt 20 dX8_checkPlace_7 (by decide) (by omega) (by decide) (fun c2 => ?_) (fun c2 => ?_)
    · skip
      exact v_vret dX8_checkPlace_20 trivial (Nat.le_of_ble_eq_true rfl) (Nat.le_of_ble_eq_true rfl) ⟨rfl, rfl, rfl⟩
    · exact absurd c2 (by omega)
theorem x_ckP {d n : Nat} {p : Int} {h : zH} (hr_p : -2147483648 ≤ p ∧ p < 2147483648) (hx : isP p = false) (hd : 6 ≤ d) :
    zT9 yX8_checkPlace cX8_checkPlace 1 none d 1 6 [.int (iI p)] h n XI (fun h' => h' = h) := by
  have hx : ¬ (0 ≤ p ∧ p < 32) := of_decide_eq_false hx
  refine zT_of zyX8_checkPlace zpX8 rfl (Nat.le_of_ble_eq_true rfl) (fun X hE h0 => ?_)
  refine v_iload_n dX8_checkPlace_0 rfl ?_
  refine w_if_lt 10 dX8_checkPlace_1 (by decide) (by omega) (fun c1 => ?_) (fun c1 => ?_)
  · skip
    exact v_thr (text := "no such place") hE h0 (rfl) rfl zX_f.1 zX_k.1 zX_i.1 (by decide) zX_I dX8_checkPlace_10 dX8_checkPlace_13 dX8_checkPlace_14 dX8_checkPlace_16 dX8_checkPlace_19 (by omega) (Nat.le_of_ble_eq_true rfl) (Nat.le_of_ble_eq_true rfl) (Nat.le_of_ble_eq_true rfl)
  · skip
    refine v_iload_n dX8_checkPlace_4 rfl ?_
    refine v_bipush (iI 32) dX8_checkPlace_5 rfl ?_
    refine w_icmp_lt 20 dX8_checkPlace_7 (by decide) (by omega) (by decide) (fun c2 => ?_) (fun c2 => ?_)
    · exact absurd c2 (by omega)
    · skip
      exact v_thr (text := "no such place") hE h0 (rfl) rfl zX_f.1 zX_k.1 zX_i.1 (by decide) zX_I dX8_checkPlace_10 dX8_checkPlace_13 dX8_checkPlace_14 dX8_checkPlace_16 dX8_checkPlace_19 (by omega) (Nat.le_of_ble_eq_true rfl) (Nat.le_of_ble_eq_true rfl) (Nat.le_of_ble_eq_true rfl)
theorem p_ckQ {d n a : Nat} {h : zH} (ha : a < 4) :
    zM yX8_checkQuire cX8_checkQuire 1 none d 0 0 [.int (iI (a:Nat))] h n (fun r h' n' => r = none ∧ n' = n ∧ h' = h) := by
  refine zM_of zyX8_checkQuire rfl (Nat.le_of_ble_eq_true rfl) (fun X hX => ?_)
  refine v_iload_n dX8_checkQuire_0 rfl ?_
  refine w_if_lt 9 dX8_checkQuire_1 (by decide) (by omega) (fun c1 => ?_) (fun c1 => ?_)
  · exact absurd c1 (by omega)
  · skip
    refine v_iload_n dX8_checkQuire_4 rfl ?_
    refine v_iconst (iI 4) dX8_checkQuire_5 rfl ?_
    refine w_icmp_lt 19 dX8_checkQuire_6 (by decide) (by omega) (by decide) (fun c2 => ?_) (fun c2 => ?_)
    · skip
      exact v_vret dX8_checkQuire_19 trivial (Nat.le_of_ble_eq_true rfl) (Nat.le_of_ble_eq_true rfl) ⟨rfl, rfl, rfl⟩
    · exact absurd c2 (by omega)
theorem x_ckQ {d n : Nat} {p : Int} {h : zH} (hr_p : -2147483648 ≤ p ∧ p < 2147483648) (hx : isQ p = false) (hd : 6 ≤ d) :
    zT9 yX8_checkQuire cX8_checkQuire 1 none d 1 6 [.int (iI p)] h n XI (fun h' => h' = h) := by
  have hx : ¬ (0 ≤ p ∧ p < 4) := of_decide_eq_false hx
  refine zT_of zyX8_checkQuire zpX8 rfl (Nat.le_of_ble_eq_true rfl) (fun X hE h0 => ?_)
  refine v_iload_n dX8_checkQuire_0 rfl ?_
  refine w_if_lt 9 dX8_checkQuire_1 (by decide) (by omega) (fun c1 => ?_) (fun c1 => ?_)
  · skip
    exact v_thr (text := "no such quire") hE h0 (rfl) rfl zX_f.1 zX_k.1 zX_i.1 (by decide) zX_I dX8_checkQuire_9 dX8_checkQuire_12 dX8_checkQuire_13 dX8_checkQuire_15 dX8_checkQuire_18 (by omega) (Nat.le_of_ble_eq_true rfl) (Nat.le_of_ble_eq_true rfl) (Nat.le_of_ble_eq_true rfl)
  · skip
    refine v_iload_n dX8_checkQuire_4 rfl ?_
    refine v_iconst (iI 4) dX8_checkQuire_5 rfl ?_
    refine w_icmp_lt 19 dX8_checkQuire_6 (by decide) (by omega) (by decide) (fun c2 => ?_) (fun c2 => ?_)
    · exact absurd c2 (by omega)
    · skip
      exact v_thr (text := "no such quire") hE h0 (rfl) rfl zX_f.1 zX_k.1 zX_i.1 (by decide) zX_I dX8_checkQuire_9 dX8_checkQuire_12 dX8_checkQuire_13 dX8_checkQuire_15 dX8_checkQuire_18 (by omega) (Nat.le_of_ble_eq_true rfl) (Nat.le_of_ble_eq_true rfl) (Nat.le_of_ble_eq_true rfl)
theorem p_ckW {d n a : Nat} {h : zH} (ha : 3 ≤ a ∧ a ≤ 32) :
    zM yX8_checkWidth cX8_checkWidth 1 none d 0 0 [.int (iI (a:Nat))] h n (fun r h' n' => r = none ∧ n' = n ∧ h' = h) := by
  refine zM_of zyX8_checkWidth rfl (Nat.le_of_ble_eq_true rfl) (fun X hX => ?_)
  refine v_iload_n dX8_checkWidth_0 rfl ?_
  refine v_iconst (iI 3) dX8_checkWidth_1 rfl ?_
  refine w_icmp_lt 11 dX8_checkWidth_2 (by decide) (by omega) (by decide) (fun c1 => ?_) (fun c1 => ?_)
  · exact absurd c1 (by omega)
  · skip
    refine v_iload_n dX8_checkWidth_5 rfl ?_
    refine v_bipush (iI 32) dX8_checkWidth_6 rfl ?_
    refine w_icmp_le 21 dX8_checkWidth_8 (by decide) (by omega) (by decide) (fun c2 => ?_) (fun c2 => ?_)
    · skip
      exact v_vret dX8_checkWidth_21 trivial (Nat.le_of_ble_eq_true rfl) (Nat.le_of_ble_eq_true rfl) ⟨rfl, rfl, rfl⟩
    · exact absurd c2 (by omega)
theorem x_ckW {d n : Nat} {p : Int} {h : zH} (hr_p : -2147483648 ≤ p ∧ p < 2147483648) (hx : isW p = false) (hd : 6 ≤ d) :
    zT9 yX8_checkWidth cX8_checkWidth 1 none d 1 6 [.int (iI p)] h n XA (fun h' => h' = h) := by
  have hx : ¬ (3 ≤ p ∧ p ≤ 32) := of_decide_eq_false hx
  refine zT_of zyX8_checkWidth zpX8 rfl (Nat.le_of_ble_eq_true rfl) (fun X hE h0 => ?_)
  refine v_iload_n dX8_checkWidth_0 rfl ?_
  refine v_iconst (iI 3) dX8_checkWidth_1 rfl ?_
  refine w_icmp_lt 11 dX8_checkWidth_2 (by decide) (by omega) (by decide) (fun c1 => ?_) (fun c1 => ?_)
  · skip
    exact v_thr (text := "no such width") hE h0 (rfl) rfl zX_f.2.1 zX_k.2.1 zX_i.2.1 (by decide) zX_A dX8_checkWidth_11 dX8_checkWidth_14 dX8_checkWidth_15 dX8_checkWidth_17 dX8_checkWidth_20 (by omega) (Nat.le_of_ble_eq_true rfl) (Nat.le_of_ble_eq_true rfl) (Nat.le_of_ble_eq_true rfl)
  · skip
    refine v_iload_n dX8_checkWidth_5 rfl ?_
    refine v_bipush (iI 32) dX8_checkWidth_6 rfl ?_
    refine w_icmp_le 21 dX8_checkWidth_8 (by decide) (by omega) (by decide) (fun c2 => ?_) (fun c2 => ?_)
    · exact absurd c2 (by omega)
    · skip
      exact v_thr (text := "no such width") hE h0 (rfl) rfl zX_f.2.1 zX_k.2.1 zX_i.2.1 (by decide) zX_A dX8_checkWidth_11 dX8_checkWidth_14 dX8_checkWidth_15 dX8_checkWidth_17 dX8_checkWidth_20 (by omega) (Nat.le_of_ble_eq_true rfl) (Nat.le_of_ble_eq_true rfl) (Nat.le_of_ble_eq_true rfl)
theorem n_P {p : Int} (h : isP p = true) : ∃ a : Nat, p = a ∧ a < 32 := ⟨p.toNat, by have := isP_t h; omega, by have := isP_t h; omega⟩
theorem n_Q {p : Int} (h : isQ p = true) : ∃ a : Nat, p = a ∧ a < 4 := ⟨p.toNat, by have := isQ_t h; omega, by have := isQ_t h; omega⟩
set_option maxHeartbeats 8000000 in
set_option maxRecDepth 100000 in
theorem p_loadBoth {d n tc a1 a2 a3 : Nat} {wd pt tf : Nat → Nat} {Q : Nat → Int} {qn : Nat → Bool} {L : List Nat} {h : zH} (hH : HD h wd pt Q qn tf tc L) (hPL : PL wd pt) (h1 : a1 < 32) (h2 : a2 < 32) (h3 : a3 < 32) (hd : 3 ≤ d) :
    zM yX8_loadBoth cX8_loadBoth 4 none d 0 0 [.ref 0, .int (iI (a1:Nat)), .int (iI (a2:Nat)), .int (iI (a3:Nat))] h n (fun r h' n' => r = none ∧ n' = n ∧ (∃ (s1 : Nat) (x1 : Int) (s2 : Nat) (x2 : Int), PO h' 12 (decide (pt a1 = 2 ^ (wd a1 - 1))) (decide (2 ^ (wd a1 - 1) < pt a1)) s1 x1 ∧ pd (pt a1) (wd a1) s1 x1 ∧ PO h' 13 (decide (pt a2 = 2 ^ (wd a2 - 1))) (decide (2 ^ (wd a2 - 1) < pt a2)) s2 x2 ∧ pd (pt a2) (wd a2) s2 x2) ∧ zFr [12, 13] h h') := by
  obtain ⟨h_0, h_1, h_2, h_3, hQ, ⟨hp12, hp13, hp14⟩, hA, hT, hG⟩ := id hH
  have w1 := hPL a1 h1
  have w2 := hPL a2 h2
  refine zM_of zyX8_loadBoth rfl (Nat.le_of_ble_eq_true rfl) (fun X hX => ?_)
  have fr : zFr [12, 13] h h := zFr.rf
  refine v_iload_n dX8_loadBoth_0 rfl ?_
  refine v_cS (av := [.int (iI (a1:Nat))]) (st := []) zyX8_checkPlace lX8_58 (p_ckP (d := 2) h1) dX8_loadBoth_1 rfl rfl (Nat.le_of_ble_eq_true rfl) (by omega) (Nat.le_of_ble_eq_true rfl) (Nat.le_of_ble_eq_true rfl) (Or.inl (fun _ _ _ q => ZN q)) (fun r9 K1 n9 q9 => ?_)
  obtain ⟨rfl, q9n, q9h⟩ := q9
  have q9n := q9n.symm
  subst q9n
  have q9h := q9h.symm
  subst q9h
  refine v_iload_n dX8_loadBoth_4 rfl ?_
  refine v_cS (av := [.int (iI (a2:Nat))]) (st := []) zyX8_checkPlace lX8_58 (p_ckP (d := 2) h2) dX8_loadBoth_5 rfl rfl (Nat.le_of_ble_eq_true rfl) (by omega) (Nat.le_of_ble_eq_true rfl) (Nat.le_of_ble_eq_true rfl) (Or.inl (fun _ _ _ q => ZN q)) (fun r9 K2 n9 q9 => ?_)
  obtain ⟨rfl, q9n, q9h⟩ := q9
  have q9n := q9n.symm
  subst q9n
  have q9h := q9h.symm
  subst q9h
  refine v_iload_n dX8_loadBoth_8 rfl ?_
  refine v_cS (av := [.int (iI (a3:Nat))]) (st := []) zyX8_checkPlace lX8_58 (p_ckP (d := 2) h3) dX8_loadBoth_9 rfl rfl (Nat.le_of_ble_eq_true rfl) (by omega) (Nat.le_of_ble_eq_true rfl) (Nat.le_of_ble_eq_true rfl) (Or.inl (fun _ _ _ q => ZN q)) (fun r9 K3 n9 q9 => ?_)
  obtain ⟨rfl, q9n, q9h⟩ := q9
  have q9n := q9n.symm
  subst q9n
  have q9h := q9h.symm
  subst q9h
  refine v_aload_n dX8_loadBoth_12 rfl ?_
  refine v_get fX8_27 dX8_loadBoth_13 h_0 (by decide) rfl ?_
  refine v_aload_n dX8_loadBoth_16 rfl ?_
  refine v_get fX8_13 dX8_loadBoth_17 h_0 (by decide) rfl ?_
  refine v_iload_n dX8_loadBoth_20 rfl ?_
  refine w_mald dX8_loadBoth_21 h_2 a1 (by omega) (by omega) (by decide) ?_
  refine v_aload_n dX8_loadBoth_22 rfl ?_
  refine v_get fX8_9 dX8_loadBoth_23 h_0 (by decide) rfl ?_
  refine v_iload_n dX8_loadBoth_26 rfl ?_
  refine w_nald dX8_loadBoth_27 h_1 a1 (by omega) (by omega) (by decide) ?_
  obtain ⟨na2, mi2, s2, x2, h_12⟩ := hp12
  refine v_cV (av := [.long (jL (pt a1 : Nat)), .int (iI (wd a1 : Nat))]) (st := []) zyX2_load lX8_71 h_12 rfl (p_load (d := 2) h_12 (by decide) (by omega) w1.2.2) dX8_loadBoth_28 rfl rfl (Nat.le_of_ble_eq_true rfl) (by omega) (Nat.le_of_ble_eq_true rfl) (Nat.le_of_ble_eq_true rfl) (Or.inl (fun _ _ _ q => ZN q)) (fun r9 G1 n9 q9 => ?_)
  obtain ⟨rfl, q9n, ⟨sa, xa, h_12, da⟩, fr9⟩ := q9
  have q9n := q9n.symm
  subst q9n
  have h_0 := (fr9 0 (by decide)).trans h_0
  have h_1 := (fr9 1 (by decide)).trans h_1
  have h_2 := (fr9 2 (by decide)).trans h_2
  have h_3 := (fr9 3 (by decide)).trans h_3
  have hQ := hQ.fr fr9 (by decide)
  have hp13 := hp13.fr fr9 (by decide)
  have hp14 := hp14.fr fr9 (by decide)
  have hA := hA.fr fr9 (by decide)
  have hT := hT.fr fr9 (by decide)
  have hG := hG.fr fr9 (by decide)
  have fr := fr.tr fr9 (by decide)
  have b1 := pd_b (by omega) w1.2.2 da
  refine v_aload_n dX8_loadBoth_31 rfl ?_
  refine v_get fX8_31 dX8_loadBoth_32 h_0 (by decide) rfl ?_
  refine v_aload_n dX8_loadBoth_35 rfl ?_
  refine v_get fX8_13 dX8_loadBoth_36 h_0 (by decide) rfl ?_
  refine v_iload_n dX8_loadBoth_39 rfl ?_
  refine w_mald dX8_loadBoth_40 h_2 a2 (by omega) (by omega) (by decide) ?_
  refine v_aload_n dX8_loadBoth_41 rfl ?_
  refine v_get fX8_9 dX8_loadBoth_42 h_0 (by decide) rfl ?_
  refine v_iload_n dX8_loadBoth_45 rfl ?_
  refine w_nald dX8_loadBoth_46 h_1 a2 (by omega) (by omega) (by decide) ?_
  obtain ⟨na3, mi3, s3, x3, h_13⟩ := hp13
  refine v_cV (av := [.long (jL (pt a2 : Nat)), .int (iI (wd a2 : Nat))]) (st := []) zyX2_load lX8_71 h_13 rfl (p_load (d := 2) h_13 (by decide) (by omega) w2.2.2) dX8_loadBoth_47 rfl rfl (Nat.le_of_ble_eq_true rfl) (by omega) (Nat.le_of_ble_eq_true rfl) (Nat.le_of_ble_eq_true rfl) (Or.inl (fun _ _ _ q => ZN q)) (fun r9 G2 n9 q9 => ?_)
  obtain ⟨rfl, q9n, ⟨sb, xb, h_13, db⟩, fr8⟩ := q9
  have q9n := q9n.symm
  subst q9n
  have b2 := pd_b (by omega) w2.2.2 db
  have h_12 := (fr8 12 (by decide)).trans h_12
  have fr := fr.tr fr8 (by decide)
  exact v_vret dX8_loadBoth_50 trivial (Nat.le_of_ble_eq_true rfl) (Nat.le_of_ble_eq_true rfl) ⟨rfl, rfl, ⟨sa, xa, sb, xb, ⟨h_12, b1.1, b1.2⟩, da, ⟨h_13, b2.1, b2.2⟩, db⟩, fr⟩
set_option maxHeartbeats 8000000 in
set_option maxRecDepth 100000 in
theorem x_loadBoth {d n tc : Nat} {wd pt tf : Nat → Nat} {Q : Nat → Int} {qn : Nat → Bool} {L : List Nat} {p q r : Int} {h : zH} (hH : HD h wd pt Q qn tf tc L) (hr_p : -2147483648 ≤ p ∧ p < 2147483648) (hr_q : -2147483648 ≤ q ∧ q < 2147483648) (hr_r : -2147483648 ≤ r ∧ r < 2147483648) (hx : (isP p && (isP q && isP r)) = false) (hd : 7 ≤ d) :
    zT9 yX8_loadBoth cX8_loadBoth 4 none d 1 6 [.ref 0, .int (iI p), .int (iI q), .int (iI r)] h n XI (fun h' => h' = h) := by
  refine zT_of zyX8_loadBoth zpX8 rfl (Nat.le_of_ble_eq_true rfl) (fun X hE h0 => ?_)
  refine v_iload_n dX8_loadBoth_0 rfl ?_
  cases hp : isP p with
  | false =>
    exact v_cSx (av := [.int (iI p)]) (st := []) hE h0 zyX8_checkPlace lX8_58 (x_ckP (d := 6) hr_p hp (by decide)) dX8_loadBoth_1 rfl rfl (Nat.le_of_ble_eq_true rfl) (by omega) (Nat.le_of_ble_eq_true rfl) (Nat.le_of_ble_eq_true rfl) (fun h' q => q)
  | true =>
    obtain ⟨a1, e1, h1⟩ := n_P hp
    refine v_cS (av := [.int (iI p)]) (st := []) zyX8_checkPlace lX8_58 (e1 ▸ p_ckP (d := 6) h1) dX8_loadBoth_1 rfl rfl (Nat.le_of_ble_eq_true rfl) (by omega) (Nat.le_of_ble_eq_true rfl) (Nat.le_of_ble_eq_true rfl) (Or.inl (fun _ _ _ q => ZN q)) (fun r9 K1 n9 q9 => ?_)
    obtain ⟨rfl, q9n, q9h⟩ := q9
    have q9n := q9n.symm
    subst q9n
    have q9h := q9h.symm
    subst q9h
    refine v_iload_n dX8_loadBoth_4 rfl ?_
    cases hq : isP q with
    | false =>
      exact v_cSx (av := [.int (iI q)]) (st := []) hE h0 zyX8_checkPlace lX8_58 (x_ckP (d := 6) hr_q hq (by decide)) dX8_loadBoth_5 rfl rfl (Nat.le_of_ble_eq_true rfl) (by omega) (Nat.le_of_ble_eq_true rfl) (Nat.le_of_ble_eq_true rfl) (fun h' q => q)
    | true =>
      obtain ⟨a2, e2, h2⟩ := n_P hq
      refine v_cS (av := [.int (iI q)]) (st := []) zyX8_checkPlace lX8_58 (e2 ▸ p_ckP (d := 6) h2) dX8_loadBoth_5 rfl rfl (Nat.le_of_ble_eq_true rfl) (by omega) (Nat.le_of_ble_eq_true rfl) (Nat.le_of_ble_eq_true rfl) (Or.inl (fun _ _ _ q => ZN q)) (fun r9 K2 n9 q9 => ?_)
      obtain ⟨rfl, q9n, q9h⟩ := q9
      have q9n := q9n.symm
      subst q9n
      have q9h := q9h.symm
      subst q9h
      refine v_iload_n dX8_loadBoth_8 rfl ?_
      cases hr : isP r with
      | false =>
        exact v_cSx (av := [.int (iI r)]) (st := []) hE h0 zyX8_checkPlace lX8_58 (x_ckP (d := 6) hr_r hr (by decide)) dX8_loadBoth_9 rfl rfl (Nat.le_of_ble_eq_true rfl) (by omega) (Nat.le_of_ble_eq_true rfl) (Nat.le_of_ble_eq_true rfl) (fun h' q => q)
      | true =>
        rw [hp, hq, hr] at hx
        exact absurd hx (by decide)
