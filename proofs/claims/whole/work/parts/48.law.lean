/-! The law: its state, the script, bounds. -/
theorem MD.fr {h h' : zH} {wd pt tf : Nat → Nat} {Q : Nat → Int} {qn : Nat → Bool} {L : List Nat} {tc : Nat} {th : Int} {S : List Nat} (q : MD h wd pt Q qn tf tc L th) (g : zFr S h h') (hs : ∀ x ∈ S, x < 47 ∨ 89 < x) : MD h' wd pt Q qn tf tc L th := by
  obtain ⟨vs, vm, ve, sg, e, rt, at9, sz, dg, pw, tn, fm, h_47, h_48, h_49, ⟨nA, nB, nL, nR, nP, nS, nN, nD, nLo, nUp⟩, h_58, ⟨Q0, n0, hS⟩, hq, h_66, ⟨tx, h_67, hbb, htx⟩, ⟨fg, h_68⟩, ⟨fw, h_73⟩⟩ := q
  have k : ∀ y, 47 ≤ y → y ≤ 89 → y ∉ S := fun y a b z => by have := hs y z; omega
  exact ⟨vs, vm, ve, sg, e, rt, at9, sz, dg, pw, tn, fm, (g 47 (k _ (by decide) (by decide))).trans h_47, (g 48 (k _ (by decide) (by decide))).trans h_48, (g 49 (k _ (by decide) (by decide))).trans h_49,
    ⟨nA.fr g (k _ (by decide) (by decide)) (k _ (by decide) (by decide)), nB.fr g (k _ (by decide) (by decide)) (k _ (by decide) (by decide)), nL.fr g (k _ (by decide) (by decide)) (k _ (by decide) (by decide)), nR.fr g (k _ (by decide) (by decide)) (k _ (by decide) (by decide)), nP.fr g (k _ (by decide) (by decide)) (k _ (by decide) (by decide)), nS.fr g (k _ (by decide) (by decide)) (k _ (by decide) (by decide)), nN.fr g (k _ (by decide) (by decide)) (k _ (by decide) (by decide)), nD.fr g (k _ (by decide) (by decide)) (k _ (by decide) (by decide)), nLo.fr g (k _ (by decide) (by decide)) (k _ (by decide) (by decide)), nUp.fr g (k _ (by decide) (by decide)) (k _ (by decide) (by decide))⟩, (g 58 (k _ (by decide) (by decide))).trans h_58, ⟨Q0, n0, hS.fr g (k _ (by decide) (by decide)) (k _ (by decide) (by decide)) (k _ (by decide) (by decide))⟩, hq.fr g (fun x z => by have := hs x z; omega), (g 66 (k _ (by decide) (by decide))).trans h_66, ⟨tx, (g 67 (k _ (by decide) (by decide))).trans h_67, hbb, htx⟩, ⟨fg, (g 68 (k _ (by decide) (by decide))).trans h_68⟩, ⟨fw, (g 73 (k _ (by decide) (by decide))).trans h_73⟩⟩
theorem bsr_ge {f : Nat → Int} : ∀ (m lo hi : Nat), lo ≤ bsr f m lo hi
  | 0, lo, hi => Nat.le_refl _
  | m + 1, lo, hi => by
    unfold bsr
    by_cases c : hi - lo ≤ 1
    · rw [if_pos c]; exact Nat.le_refl _
    · rw [if_neg c]
      by_cases c2 : 0 ≤ f ((lo + hi) / 2)
      · rw [if_pos c2]
        exact Nat.le_trans (by omega) (bsr_ge m ((lo + hi) / 2) hi)
      · rw [if_neg c2]
        exact bsr_ge m lo ((lo + hi) / 2)
theorem rdS_ge {C : Nat → Nat → Int} {n : Nat} (hn : 3 ≤ n) : 1 ≤ rdS C n := by
  have h4 : 2 ^ 2 ≤ 2 ^ (n - 1) := Nat.pow_le_pow_right (by decide) (by omega)
  unfold rdS
  split
  · omega
  · split
    · omega
    · have hb := bsr_ge (f := fun u => C u n) (2 ^ (n - 1)) 1 (2 ^ (n - 1) - 1)
      split
      · exact hb
      · omega
theorem rdR_lt {s : Int} {C : Nat → Nat → Int} {n : Nat} (hn : 3 ≤ n) : rdR s C n < 2 ^ n := by
  have h1 := rdS_ge (C := C) hn
  have h2 := rdS_le (C := C) hn
  have h3 : 2 ^ n = 2 * 2 ^ (n - 1) := pw2 (by omega)
  have h4 := p_pos (n - 1)
  unfold rdR
  split
  · omega
  · split <;> omega
theorem hf_lt {n : Nat} (hn : 3 ≤ n) : 2 ^ (n - 1) < 2 ^ n := by
  have h3 : 2 ^ n = 2 * 2 ^ (n - 1) := pw2 (by omega)
  have h4 := p_pos (n - 1)
  omega
theorem if_lt {c : Prop} [Decidable c] {a b k : Nat} (ha : a < k) (hb : b < k) : (if c then a else b) < k := by split <;> assumption
theorem mtn_lt {w p m : Nat} (hw : 3 ≤ w) (hp : p < 2 ^ w) : mtn w p m < 2 ^ w := by
  have h4 := p_pos w
  unfold mtn
  refine if_lt (Nat.mod_lt _ h4) (if_lt (Nat.mod_lt _ h4) (if_lt hp (if_lt (Nat.mod_lt _ h4) ?_)))
  by_cases c1 : m = 1
  · rw [if_pos c1]
    by_cases c2 : pvI p w < 0
    · rw [if_pos c2]
      have : p ≠ 0 := fun q => by
        unfold pvI at c2
        rw [if_pos q] at c2
        omega
      omega
    · rw [if_neg c2]; exact hp
  · rw [if_neg c1]
    exact if_lt (rdR_lt hw) (rdR_lt hw)
theorem mrd_lt {f : Nat → Nat} {c w : Nat} (hw : 3 ≤ w) : mrd f c w < 2 ^ w := by
  unfold mrd
  cases sN f c with
  | true => exact hf_lt hw
  | false => exact rdR_lt hw
theorem mse_lt {wd : Nat → Nat} {Q : Int} {na : Bool} {a : Nat} (hw : 3 ≤ wd a) : mse wd Q na a < 2 ^ wd a := by
  unfold mse
  cases na with
  | true => exact hf_lt hw
  | false => exact rdR_lt hw
theorem PL.up {wd pt : Nat → Nat} {a v : Nat} (q : PL wd pt) (hv : v < 2 ^ wd a) : PL wd (zup pt a v) := fun i hi => by
  by_cases e : i = a
  · subst e; rw [zup_same]; exact ⟨(q i hi).1, (q i hi).2.1, hv⟩
  · rw [zup_ne _ _ e]; exact q i hi
theorem PL.uw {wd pt : Nat → Nat} {a v w : Nat} (q : PL wd pt) (hw : 3 ≤ w ∧ w ≤ 32) (hv : v < 2 ^ w) : PL (zup wd a w) (zup pt a v) := fun i hi => by
  by_cases e : i = a
  · subst e; rw [zup_same, zup_same]; exact ⟨hw.1, hw.2, hv⟩
  · rw [zup_ne _ _ e, zup_ne _ _ e]; exact q i hi
/-- the four sums stay small -/
def QB (Q : Nat → Int) (N : Nat) : Prop := ∀ k, k < 4 → (Q k).natAbs ≤ N * 2 ^ 480
theorem QB.mono {Q : Nat → Int} {N M : Nat} (q : QB Q N) (h : N ≤ M) : QB Q M := fun k hk => Nat.le_trans (q k hk) (Nat.mul_le_mul_right _ h)
theorem QB.up {Q : Nat → Int} {N k : Nat} {x : Int} (q : QB Q N) (hx : x.natAbs ≤ N * 2 ^ 480) : QB (zup Q k x) N := fun j hj => by
  by_cases e : j = k
  · subst e; rw [zup_same]; exact hx
  · rw [zup_ne _ _ e]; exact q j hj
theorem QB.n5 {Q : Nat → Int} {N k : Nat} (q : QB Q N) (hN : N ≤ 20000) (hk : k < 4) : (Q k).natAbs < 2 ^ 511 ∧ nb (Q k).natAbs ≤ 700 := by
  have h1 := q k hk
  have h2 : (Q k).natAbs < 2 ^ 495 := by
    refine Nat.lt_of_le_of_lt h1 ?_
    have : N * 2 ^ 480 ≤ 20000 * 2 ^ 480 := Nat.mul_le_mul_right _ hN
    refine Nat.lt_of_le_of_lt this ?_
    rw [show (2 : Nat) ^ 495 = 2 ^ 15 * 2 ^ 480 from by rw [← Nat.pow_add]]
    exact Nat.mul_lt_mul_of_pos_right (by decide) (p_pos 480)
  exact ⟨Nat.lt_of_lt_of_le h2 (Nat.pow_le_pow_right (by decide) (by decide)), Nat.le_trans (nb_le h2) (by decide)⟩
theorem mg_a {wd pt : Nat → Nat} {Q b : Int} {na : Bool} {p q : Nat} (hPL : PL wd pt) (hp : p < 32) (hq : q < 32) (hb : b = 1 ∨ b = -1) : (mgQ wd pt Q na p q b).natAbs ≤ Q.natAbs + 2 ^ 480 := by
  unfold mgQ
  cases hc : (na || (decide (pt p = 2 ^ (wd p - 1)) || decide (pt q = 2 ^ (wd q - 1)))) with
  | true => rw [cond_true]; exact Nat.le_add_right _ _
  | false =>
    rw [cond_false]
    rw [Bool.or_eq_false_iff, Bool.or_eq_false_iff] at hc
    have w1 := hPL p hp
    have w2 := hPL q hq
    have h9 := pv_pr ⟨w1.1, w1.2.1⟩ w1.2.2 (of_decide_eq_false hc.2.1) ⟨w2.1, w2.2.1⟩ w2.2.2 (of_decide_eq_false hc.2.2)
    generalize pvI (pt p) (wd p) * pvI (pt q) (wd q) = V at h9 ⊢
    generalize (2 : Nat) ^ 480 = P at h9 ⊢
    rcases hb with rfl | rfl <;> omega
theorem md_a {wd pt : Nat → Nat} {Q : Int} {na : Bool} {p q : Nat} (hPL : PL wd pt) : ∀ m : Nat, (m = 0 ∨ (p + m ≤ 32 ∧ q + m ≤ 32)) → (mdt wd pt Q na p q m).1.natAbs ≤ Q.natAbs + m * 2 ^ 480
  | 0, _ => by show Q.natAbs ≤ _; omega
  | m + 1, h => by
    have ih := md_a (Q := Q) (na := na) (p := p) (q := q) hPL m (by omega)
    have := mg_a (Q := (mdt wd pt Q na p q m).1) (na := (mdt wd pt Q na p q m).2) (p := p + m) (q := q + m) (b := 1) hPL (by omega) (by omega) (Or.inl rfl)
    show (mgQ wd pt (mdt wd pt Q na p q m).1 (mdt wd pt Q na p q m).2 (p + m) (q + m) 1).natAbs ≤ _
    rw [Nat.add_mul, Nat.one_mul]
    omega
theorem wrS_of {p w : Nat} (hw : 3 ≤ w ∧ w ≤ 32) (hp : p < 2 ^ w) : wrS p w := fun h0 h9 => by
  have hb := pm_b hw hp h0 h9
  obtain ⟨sg, ex, hl⟩ := ld_ex ⟨hw.1, by omega⟩ hb.1 hb.2
  have d : pd p w sg ex := by unfold pd; rw [if_neg (fun q => q.elim h0 h9)]; exact hl
  obtain ⟨u, EL, EH, R9, B9, A9, j9, k9, -, -, -, -, -, -, -, -, -, -, -, -, -, -, -, hS, -⟩ := e_ws hw hp h0 h9 d
  exact hS h0 h9
/-! no cell names another that is none -/
def zg (c : zC) : Prop := ∀ (σ σ' : Nat → Nat), (∀ i, i < 91 → σ i = σ' i) → ∀ k : ClassId, ze σ k c = ze σ' k c
theorem zg_o {ci : Nat} {fs : List Value} (h : zB 91 fs) : zg (.inr (ci, fs)) := zk_o h
theorem zg_i {ty : FieldType} {N : Nat} {f : Nat → Int32} : zg (.inl (ty, N, .inl f)) := fun _ _ _ _ => rfl
theorem zg_l {ty : FieldType} {N : Nat} {f : Nat → Int64} : zg (.inl (ty, N, .inr (.inl f))) := fun _ _ _ _ => rfl
theorem zg_q {f : Nat → Option Nat} {C : String} (h : ∀ j i, f j = some i → i < 91) : zg (oQarr f C) := zk_a (fun N g e j i hj => by
  have : g = f := by cases e; rfl
  rw [this] at hj
  exact h j i hj)
set_option maxHeartbeats 8000000 in
set_option maxRecDepth 100000 in
theorem zk_of {h : zH} {wd pt tf wd2 pt2 tf2 : Nat → Nat} {Q Q2 : Nat → Int} {qn qn2 : Nat → Bool} {L L2 : List Nat} {tc tc2 : Nat} {th : Int} {g : Nat → Int} (hH : HD h wd pt Q qn tf tc L) (hM : MD h wd2 pt2 Q2 qn2 tf2 tc2 L2 th) (h_90 : h 90 = aL 1 g) : zk h 91 := by
  obtain ⟨h_0, h_1, h_2, h_3, hQ, ⟨hp12, hp13, hp14⟩, hA, hT, hG⟩ := id hH
  obtain ⟨_, o4, r5, -⟩ := id (show QD h 4 5 (qn 0) (q512 (Q 0)) from hQ 0 (by decide))
  obtain ⟨_, o6, r7, -⟩ := id (show QD h 6 7 (qn 1) (q512 (Q 1)) from hQ 1 (by decide))
  obtain ⟨_, o8, r9, -⟩ := id (show QD h 8 9 (qn 2) (q512 (Q 2)) from hQ 2 (by decide))
  obtain ⟨_, o10, r11, -⟩ := id (show QD h 10 11 (qn 3) (q512 (Q 3)) from hQ 3 (by decide))
  obtain ⟨_, _, _, _, o12⟩ := hp12
  obtain ⟨_, _, _, _, o13⟩ := hp13
  obtain ⟨_, _, _, _, o14⟩ := hp14
  obtain ⟨h_15, ⟨_, _, hQ16⟩, h_18, ⟨_, hU⟩, ⟨_, hL9⟩, _, _, _, h_23, hwF, hwB, _, hwT⟩ := id hA
  obtain ⟨_, o16, r17, -⟩ := id hQ16
  obtain ⟨_, _, o19, r20, -⟩ := id (hU)
  obtain ⟨_, _, o21, r22, -⟩ := id (hL9)
  obtain ⟨_, _, o24, r25, -⟩ := id (hwF)
  obtain ⟨_, _, o26, r27, -⟩ := id (hwB)
  obtain ⟨_, _, o28, r29, -⟩ := id (hwT)
  obtain ⟨_, _, _, _, _, _, h_30, h_31, hD9⟩ := id hT
  obtain ⟨_, _, o32, r33, -⟩ := id (hD9)
  obtain ⟨⟨_, _, _, _, _, h_34, h_35, -⟩, ⟨_, u1⟩, ⟨_, u2⟩, ⟨_, u3⟩, ⟨_, u4⟩, ⟨_, u5⟩, _, _, _, _, h_36⟩ := id hG
  obtain ⟨_, _, o37, r38, -⟩ := id (u1)
  obtain ⟨_, _, o39, r40, -⟩ := id (u2)
  obtain ⟨_, _, o41, r42, -⟩ := id (u3)
  obtain ⟨_, _, o43, r44, -⟩ := id (u4)
  obtain ⟨_, _, o45, r46, -⟩ := id (u5)
  obtain ⟨_, _, _, _, _, _, _, _, _, _, _, _, h_47, h_48, h_49, ⟨nA, nB, nL, nR, nP, nS, nN, nD, nLo, nUp⟩, h_58, ⟨_, _, h_59, hS9⟩, hq, h_66, ⟨_, h_67, -⟩, ⟨_, h_68⟩, ⟨_, h_73⟩⟩ := id hM
  obtain ⟨_, _, o50, r51, -⟩ := id (nA)
  obtain ⟨_, _, o52, r53, -⟩ := id (nB)
  obtain ⟨_, _, o54, r55, -⟩ := id (nL)
  obtain ⟨_, _, o56, r57, -⟩ := id (nR)
  obtain ⟨_, _, o62, r63, -⟩ := id (nP)
  obtain ⟨_, _, o64, r65, -⟩ := id (nS)
  obtain ⟨_, _, o69, r70, -⟩ := id (nN)
  obtain ⟨_, _, o71, r72, -⟩ := id (nD)
  obtain ⟨_, _, o74, r75, -⟩ := id (nLo)
  obtain ⟨_, _, o76, r77, -⟩ := id (nUp)
  obtain ⟨_, _, o60, r61, -⟩ := id (hS9)
  obtain ⟨o78, _, _, o79, r80, -⟩ := id (show SQ h 78 79 80 (Q2 0) (qn2 0) from hq 0 (by decide))
  obtain ⟨o81, _, _, o82, r83, -⟩ := id (show SQ h 81 82 83 (Q2 1) (qn2 1) from hq 1 (by decide))
  obtain ⟨o84, _, _, o85, r86, -⟩ := id (show SQ h 84 85 86 (Q2 2) (qn2 2) from hq 2 (by decide))
  obtain ⟨o87, _, _, o88, r89, -⟩ := id (show SQ h 87 88 89 (Q2 3) (qn2 3) from hq 3 (by decide))
  have all : ∀ k, k < 91 → zg (h k) := fun k hk => match k, hk with
    | 0, _ => by rw [h_0]; exact zg_o (by repeat (first | exact zB_n | refine zB_r (by decide) ?_ | refine zB_i ?_ | refine zB_l ?_ | refine zB_z ?_))
    | 1, _ => by rw [h_1]; exact zg_i
    | 2, _ => by rw [h_2]; exact zg_l
    | 3, _ => by rw [h_3]; exact zg_q (fun j i e => by by_cases c : j < 4 <;> simp [c] at e; omega)
    | 4, _ => by rw [o4]; exact zg_o (by repeat (first | exact zB_n | refine zB_r (by decide) ?_ | refine zB_i ?_ | refine zB_l ?_ | refine zB_z ?_))
    | 5, _ => by rw [r5]; exact zg_i
    | 6, _ => by rw [o6]; exact zg_o (by repeat (first | exact zB_n | refine zB_r (by decide) ?_ | refine zB_i ?_ | refine zB_l ?_ | refine zB_z ?_))
    | 7, _ => by rw [r7]; exact zg_i
    | 8, _ => by rw [o8]; exact zg_o (by repeat (first | exact zB_n | refine zB_r (by decide) ?_ | refine zB_i ?_ | refine zB_l ?_ | refine zB_z ?_))
    | 9, _ => by rw [r9]; exact zg_i
    | 10, _ => by rw [o10]; exact zg_o (by repeat (first | exact zB_n | refine zB_r (by decide) ?_ | refine zB_i ?_ | refine zB_l ?_ | refine zB_z ?_))
    | 11, _ => by rw [r11]; exact zg_i
    | 12, _ => by rw [o12]; exact zg_o (by repeat (first | exact zB_n | refine zB_r (by decide) ?_ | refine zB_i ?_ | refine zB_l ?_ | refine zB_z ?_))
    | 13, _ => by rw [o13]; exact zg_o (by repeat (first | exact zB_n | refine zB_r (by decide) ?_ | refine zB_i ?_ | refine zB_l ?_ | refine zB_z ?_))
    | 14, _ => by rw [o14]; exact zg_o (by repeat (first | exact zB_n | refine zB_r (by decide) ?_ | refine zB_i ?_ | refine zB_l ?_ | refine zB_z ?_))
    | 15, _ => by rw [h_15]; exact zg_o (by repeat (first | exact zB_n | refine zB_r (by decide) ?_ | refine zB_i ?_ | refine zB_l ?_ | refine zB_z ?_))
    | 16, _ => by rw [o16]; exact zg_o (by repeat (first | exact zB_n | refine zB_r (by decide) ?_ | refine zB_i ?_ | refine zB_l ?_ | refine zB_z ?_))
    | 17, _ => by rw [r17]; exact zg_i
    | 18, _ => by rw [h_18]; exact zg_o (by repeat (first | exact zB_n | refine zB_r (by decide) ?_ | refine zB_i ?_ | refine zB_l ?_ | refine zB_z ?_))
    | 19, _ => by rw [o19]; exact zg_o (by repeat (first | exact zB_n | refine zB_r (by decide) ?_ | refine zB_i ?_ | refine zB_l ?_ | refine zB_z ?_))
    | 20, _ => by rw [r20]; exact zg_i
    | 21, _ => by rw [o21]; exact zg_o (by repeat (first | exact zB_n | refine zB_r (by decide) ?_ | refine zB_i ?_ | refine zB_l ?_ | refine zB_z ?_))
    | 22, _ => by rw [r22]; exact zg_i
    | 23, _ => by rw [h_23]; exact zg_o (by repeat (first | exact zB_n | refine zB_r (by decide) ?_ | refine zB_i ?_ | refine zB_l ?_ | refine zB_z ?_))
    | 24, _ => by rw [o24]; exact zg_o (by repeat (first | exact zB_n | refine zB_r (by decide) ?_ | refine zB_i ?_ | refine zB_l ?_ | refine zB_z ?_))
    | 25, _ => by rw [r25]; exact zg_i
    | 26, _ => by rw [o26]; exact zg_o (by repeat (first | exact zB_n | refine zB_r (by decide) ?_ | refine zB_i ?_ | refine zB_l ?_ | refine zB_z ?_))
    | 27, _ => by rw [r27]; exact zg_i
    | 28, _ => by rw [o28]; exact zg_o (by repeat (first | exact zB_n | refine zB_r (by decide) ?_ | refine zB_i ?_ | refine zB_l ?_ | refine zB_z ?_))
    | 29, _ => by rw [r29]; exact zg_i
    | 30, _ => by rw [h_30]; exact zg_o (by repeat (first | exact zB_n | refine zB_r (by decide) ?_ | refine zB_i ?_ | refine zB_l ?_ | refine zB_z ?_))
    | 31, _ => by rw [h_31]; exact zg_i
    | 32, _ => by rw [o32]; exact zg_o (by repeat (first | exact zB_n | refine zB_r (by decide) ?_ | refine zB_i ?_ | refine zB_l ?_ | refine zB_z ?_))
    | 33, _ => by rw [r33]; exact zg_i
    | 34, _ => by rw [h_34]; exact zg_o (by repeat (first | exact zB_n | refine zB_r (by decide) ?_ | refine zB_i ?_ | refine zB_l ?_ | refine zB_z ?_))
    | 35, _ => by rw [h_35]; exact zg_i
    | 36, _ => by rw [h_36]; exact zg_o (by repeat (first | exact zB_n | refine zB_r (by decide) ?_ | refine zB_i ?_ | refine zB_l ?_ | refine zB_z ?_))
    | 37, _ => by rw [o37]; exact zg_o (by repeat (first | exact zB_n | refine zB_r (by decide) ?_ | refine zB_i ?_ | refine zB_l ?_ | refine zB_z ?_))
    | 38, _ => by rw [r38]; exact zg_i
    | 39, _ => by rw [o39]; exact zg_o (by repeat (first | exact zB_n | refine zB_r (by decide) ?_ | refine zB_i ?_ | refine zB_l ?_ | refine zB_z ?_))
    | 40, _ => by rw [r40]; exact zg_i
    | 41, _ => by rw [o41]; exact zg_o (by repeat (first | exact zB_n | refine zB_r (by decide) ?_ | refine zB_i ?_ | refine zB_l ?_ | refine zB_z ?_))
    | 42, _ => by rw [r42]; exact zg_i
    | 43, _ => by rw [o43]; exact zg_o (by repeat (first | exact zB_n | refine zB_r (by decide) ?_ | refine zB_i ?_ | refine zB_l ?_ | refine zB_z ?_))
    | 44, _ => by rw [r44]; exact zg_i
    | 45, _ => by rw [o45]; exact zg_o (by repeat (first | exact zB_n | refine zB_r (by decide) ?_ | refine zB_i ?_ | refine zB_l ?_ | refine zB_z ?_))
    | 46, _ => by rw [r46]; exact zg_i
    | 47, _ => by rw [h_47]; exact zg_o (by repeat (first | exact zB_n | refine zB_r (by decide) ?_ | refine zB_i ?_ | refine zB_l ?_ | refine zB_z ?_))
    | 48, _ => by rw [h_48]; exact zg_i
    | 49, _ => by rw [h_49]; exact zg_l
    | 50, _ => by rw [o50]; exact zg_o (by repeat (first | exact zB_n | refine zB_r (by decide) ?_ | refine zB_i ?_ | refine zB_l ?_ | refine zB_z ?_))
    | 51, _ => by rw [r51]; exact zg_i
    | 52, _ => by rw [o52]; exact zg_o (by repeat (first | exact zB_n | refine zB_r (by decide) ?_ | refine zB_i ?_ | refine zB_l ?_ | refine zB_z ?_))
    | 53, _ => by rw [r53]; exact zg_i
    | 54, _ => by rw [o54]; exact zg_o (by repeat (first | exact zB_n | refine zB_r (by decide) ?_ | refine zB_i ?_ | refine zB_l ?_ | refine zB_z ?_))
    | 55, _ => by rw [r55]; exact zg_i
    | 56, _ => by rw [o56]; exact zg_o (by repeat (first | exact zB_n | refine zB_r (by decide) ?_ | refine zB_i ?_ | refine zB_l ?_ | refine zB_z ?_))
    | 57, _ => by rw [r57]; exact zg_i
    | 58, _ => by rw [h_58]; exact zg_q (fun j i e => by by_cases c : j < 4 <;> simp [c] at e; omega)
    | 59, _ => by rw [h_59]; exact zg_o (by repeat (first | exact zB_n | refine zB_r (by decide) ?_ | refine zB_i ?_ | refine zB_l ?_ | refine zB_z ?_))
    | 60, _ => by rw [o60]; exact zg_o (by repeat (first | exact zB_n | refine zB_r (by decide) ?_ | refine zB_i ?_ | refine zB_l ?_ | refine zB_z ?_))
    | 61, _ => by rw [r61]; exact zg_i
    | 62, _ => by rw [o62]; exact zg_o (by repeat (first | exact zB_n | refine zB_r (by decide) ?_ | refine zB_i ?_ | refine zB_l ?_ | refine zB_z ?_))
    | 63, _ => by rw [r63]; exact zg_i
    | 64, _ => by rw [o64]; exact zg_o (by repeat (first | exact zB_n | refine zB_r (by decide) ?_ | refine zB_i ?_ | refine zB_l ?_ | refine zB_z ?_))
    | 65, _ => by rw [r65]; exact zg_i
    | 66, _ => by rw [h_66]; exact zg_i
    | 67, _ => by rw [h_67]; exact zg_i
    | 68, _ => by rw [h_68]; exact zg_i
    | 69, _ => by rw [o69]; exact zg_o (by repeat (first | exact zB_n | refine zB_r (by decide) ?_ | refine zB_i ?_ | refine zB_l ?_ | refine zB_z ?_))
    | 70, _ => by rw [r70]; exact zg_i
    | 71, _ => by rw [o71]; exact zg_o (by repeat (first | exact zB_n | refine zB_r (by decide) ?_ | refine zB_i ?_ | refine zB_l ?_ | refine zB_z ?_))
    | 72, _ => by rw [r72]; exact zg_i
    | 73, _ => by rw [h_73]; exact zg_i
    | 74, _ => by rw [o74]; exact zg_o (by repeat (first | exact zB_n | refine zB_r (by decide) ?_ | refine zB_i ?_ | refine zB_l ?_ | refine zB_z ?_))
    | 75, _ => by rw [r75]; exact zg_i
    | 76, _ => by rw [o76]; exact zg_o (by repeat (first | exact zB_n | refine zB_r (by decide) ?_ | refine zB_i ?_ | refine zB_l ?_ | refine zB_z ?_))
    | 77, _ => by rw [r77]; exact zg_i
    | 78, _ => by rw [o78]; exact zg_o (by repeat (first | exact zB_n | refine zB_r (by decide) ?_ | refine zB_i ?_ | refine zB_l ?_ | refine zB_z ?_))
    | 79, _ => by rw [o79]; exact zg_o (by repeat (first | exact zB_n | refine zB_r (by decide) ?_ | refine zB_i ?_ | refine zB_l ?_ | refine zB_z ?_))
    | 80, _ => by rw [r80]; exact zg_i
    | 81, _ => by rw [o81]; exact zg_o (by repeat (first | exact zB_n | refine zB_r (by decide) ?_ | refine zB_i ?_ | refine zB_l ?_ | refine zB_z ?_))
    | 82, _ => by rw [o82]; exact zg_o (by repeat (first | exact zB_n | refine zB_r (by decide) ?_ | refine zB_i ?_ | refine zB_l ?_ | refine zB_z ?_))
    | 83, _ => by rw [r83]; exact zg_i
    | 84, _ => by rw [o84]; exact zg_o (by repeat (first | exact zB_n | refine zB_r (by decide) ?_ | refine zB_i ?_ | refine zB_l ?_ | refine zB_z ?_))
    | 85, _ => by rw [o85]; exact zg_o (by repeat (first | exact zB_n | refine zB_r (by decide) ?_ | refine zB_i ?_ | refine zB_l ?_ | refine zB_z ?_))
    | 86, _ => by rw [r86]; exact zg_i
    | 87, _ => by rw [o87]; exact zg_o (by repeat (first | exact zB_n | refine zB_r (by decide) ?_ | refine zB_i ?_ | refine zB_l ?_ | refine zB_z ?_))
    | 88, _ => by rw [o88]; exact zg_o (by repeat (first | exact zB_n | refine zB_r (by decide) ?_ | refine zB_i ?_ | refine zB_l ?_ | refine zB_z ?_))
    | 89, _ => by rw [r89]; exact zg_i
    | 90, _ => by rw [h_90]; exact zg_l
    | k + 91, hk => absurd hk (by omega)
  exact all
/-! the script -/
def zSc (X : zX) (L9 : Nat) (sc : Nat → Int) : Prop := match X with
  | (_, _, _, _, s, _, _, _, _, _, _, _, A, σ0, n0, _) => n0 = 0 ∧ ∃ xs : Nat → Int32, va_X (σ0 1000) L9 xs s s.heap ∧ σ0 1000 < s.heap.size ∧ ¬ A (σ0 1000) ∧ L9 ≤ 3072 ∧ ∀ j, xs j = iI (sc j) ∧ -2147483648 ≤ sc j ∧ sc j < 2147483648
theorem zSc.r {X : zX} {L9 : Nat} {sc : Nat → Int} (h : zSc X L9 sc) (j : Nat) : -2147483648 ≤ sc j ∧ sc j < 2147483648 := by
  obtain ⟨p, l, e, R, s, m, args, below, meth, c, Q, D, A, σ0, n0, G⟩ := X
  obtain ⟨-, xs, -, -, -, -, hj⟩ := h
  exact (hj j).2
theorem zSc.l {X : zX} {L9 : Nat} {sc : Nat → Int} (h : zSc X L9 sc) : L9 ≤ 3072 := by
  obtain ⟨p, l, e, R, s, m, args, below, meth, c, Q, D, A, σ0, n0, G⟩ := X
  obtain ⟨-, xs, -, -, -, hl, -⟩ := h
  exact hl
section
variable {X : zX} {Post : zP} {cc : ByteArray} {nL : Nat} {own : String} {ret : Option FieldType} {d MC MS pc : Nat} {lv : List (Nat × Value)} {st : List Value} {h : zH} {n cells slots L9 : Nat} {sc : Nat → Int}
theorem w_sld {a v : Int} (hS : zSc X L9 sc) (hn : n ≤ 1000) (hd : decode cc pc = .ok (.iaload, 1)) (k : Nat) (ha : a = k) (hk : k < L9) (hv : sc k = v) (k9 : zV X Post cc nL own ret d MC MS (pc + 1) lv (.int (iI v) :: st) h n cells slots) : zV X Post cc nL own ret d MC MS pc lv (.int (iI a) :: .ref 1000 :: st) h n cells slots := by
  obtain ⟨p, l, e, R, s, m, args, below, meth, c, Q, D, A, σ0, n0, G⟩ := X
  obtain ⟨e0, xs, hX, hb9, hA9, hl9, hj⟩ := hS
  intro C hn0 σ cy tys ls H locs h0 hO hl
  have eσ : σ 1000 = σ0 1000 := h0 1000 (Or.inr hn)
  have K := k9 C hn0 σ cy tys ls H locs h0 hO hl
  have e1 : xs (iI a).toNatClampNeg = iI v := by rw [ha, iI_clamp (by omega), (hj k).1, hv]
  show W p l e R s m args below meth c H locs cells slots Q (F0 m pc ls (.int (iI a) :: .ref (σ 1000) :: zS σ st))
  rw [eσ]
  refine va_sld C.1 C.2.1 hX hb9 hA9 hO.2.2.2.2.2 (i := iI a) (by rw [ha]; exact iI_in hk (by omega)) hd ?_
  rw [e1]
  exact K
theorem w_slen (hS : zSc X L9 sc) (hn : n ≤ 1000) (hd : decode cc pc = .ok (.arraylength, 1)) (k9 : zV X Post cc nL own ret d MC MS (pc + 1) lv (.int (iI (L9 : Nat)) :: st) h n cells slots) : zV X Post cc nL own ret d MC MS pc lv (.ref 1000 :: st) h n cells slots := by
  obtain ⟨p, l, e, R, s, m, args, below, meth, c, Q, D, A, σ0, n0, G⟩ := X
  obtain ⟨e0, xs, hX, hb9, hA9, hl9, hj⟩ := hS
  intro C hn0 σ cy tys ls H locs h0 hO hl
  have eσ : σ 1000 = σ0 1000 := h0 1000 (Or.inr hn)
  have K := k9 C hn0 σ cy tys ls H locs h0 hO hl
  show W p l e R s m args below meth c H locs cells slots Q (F0 m pc ls (.ref (σ 1000) :: zS σ st))
  rw [eσ]
  refine va_slen C.1 C.2.1 hX hb9 hA9 hO.2.2.2.2.2 hd ?_
  exact K
end
/-- between two calls -/
def LI (h : zH) (N : Nat) : Prop := ∃ (wd pt tf : Nat → Nat) (Q : Nat → Int) (qn : Nat → Bool) (tc : Nat) (L : List Nat) (th : Int) (g : Nat → Int), HD h wd pt Q qn tf tc L ∧ MD h wd pt Q qn tf tc L th ∧ h 90 = aL 1 g ∧ PL wd pt ∧ bb tf ∧ tc ≤ 80 ∧ QB Q N
theorem HD.L {h : zH} {wd pt tf : Nat → Nat} {Q : Nat → Int} {qn : Nat → Bool} {L : List Nat} {tc : Nat} (hH : HD h wd pt Q qn tf tc L) : L.length ≤ 160 := by
  obtain ⟨-, -, -, -, -, -, -, -, ⟨⟨_, _, _, _, _, -, -, -, -, hl⟩, -⟩⟩ := hH
  exact hl
abbrev PLW : zP := fun r _ _ => r = some (.int (iI (bz true)))
