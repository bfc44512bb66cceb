/-! The reference: its whole state, and the methods that the law calls -/
abbrev MOL : List Nat := [47, 48, 49, 50, 51, 52, 53, 54, 55, 56, 57, 58, 59, 60, 61, 62, 63, 64, 65, 66, 67, 68, 69, 70, 71, 72, 73, 74, 75, 76, 77, 78, 79, 80, 81, 82, 83, 84, 85, 86, 87, 88, 89]
def MN (h : zH) : Prop := NS h 50 51 ∧ NS h 52 53 ∧ NS h 54 55 ∧ NS h 56 57 ∧ NS h 62 63 ∧ NS h 64 65 ∧ NS h 69 70 ∧ NS h 71 72 ∧ NS h 74 75 ∧ NS h 76 77
/-- the four sums -/
def QA (h : zH) (Q : Nat → Int) (qn : Nat → Bool) : Prop := ∀ k, k < 4 → SQ h (78 + 3 * k) (79 + 3 * k) (80 + 3 * k) (Q k) (qn k)
theorem QA.fr {h h' : zH} {Q : Nat → Int} {qn : Nat → Bool} {S : List Nat} (q : QA h Q qn) (f : zFr S h h') (hs : ∀ x ∈ S, x < 78 ∨ 89 < x) : QA h' Q qn := fun k hk => (q k hk).fr f (fun z => by have := hs _ z; omega) (fun z => by have := hs _ z; omega) (fun z => by have := hs _ z; omega)
abbrev oQarr (f : Nat → Option Nat) (c : String) : zC := .inl (.object c, 4, .inr (.inr (.inr (.inr f))))
def MD (h : zH) (wd pt : Nat → Nat) (Q : Nat → Int) (qn : Nat → Bool) (tf : Nat → Nat) (tc : Nat) (L : List Nat) (th : Int) : Prop :=
  ∃ vs vm ve sg e rt at9 sz dg pw tn fm, h 47 = oModel vs vm ve sg e rt th (tc:Nat) (L.length:Nat) at9 sz dg pw tn fm ∧ h 48 = aN 32 wd ∧ h 49 = aM 32 pt ∧ MN h ∧ h 58 = oQarr (fun k => if k < 4 then some (78 + 3 * k) else none) "PositHouseModel$Sum" ∧ (∃ Q0 n0, SQ h 59 60 61 Q0 n0) ∧ QA h Q qn ∧ h 66 = aN 80 tf ∧ (∃ f, h 67 = aN 400 f ∧ bb f ∧ txt f L) ∧ (∃ f, h 68 = aN 200 f) ∧ (∃ f, h 73 = aN 80 f)
/-- a place -/
def isP (p : Int) : Bool := decide (0 ≤ p ∧ p < 32)
def isW (p : Int) : Bool := decide (3 ≤ p ∧ p ≤ 32)
def isQ (p : Int) : Bool := decide (0 ≤ p ∧ p < 4)
def thr (b1 b2 : Bool) : Int := cond b1 (cond b2 0 2) 1
theorem isP_t {p : Int} (h : isP p = true) : 0 ≤ p ∧ p < 32 := of_decide_eq_true h
theorem isW_t {p : Int} (h : isW p = true) : 3 ≤ p ∧ p ≤ 32 := of_decide_eq_true h
theorem isQ_t {p : Int} (h : isQ p = true) : 0 ≤ p ∧ p < 4 := of_decide_eq_true h
theorem uv_b {u n : Nat} {r : Int} {t : Nat} (h : dec u n r t) : nb (uv u n) ≤ 310 := by
  obtain ⟨h1, h2, h3, -⟩ := id h
  unfold uv pM pE
  rw [dec_R h]
  show nb ((1073741824 + t % 1073741824) * 2 ^ (4 * r + ((t / 1073741824 : Nat) : Int) - 30 + 150).toNat / 1073741824) ≤ 310
  apply nb_le
  apply Nat.div_lt_of_lt_mul
  have e1 : 1073741824 + t % 1073741824 < 2147483648 := by omega
  have e2 : 2 ^ (4 * r + ((t / 1073741824 : Nat) : Int) - 30 + 150).toNat ≤ 2 ^ 275 := Nat.pow_le_pow_right (by decide) (by omega)
  have e3 := Nat.mul_lt_mul_of_lt_of_le e1 e2 (p_pos _)
  exact Nat.lt_trans e3 (by decide)
theorem pv_b {p n : Nat} (hn : 3 ≤ n ∧ n ≤ 32) (hp : p < 2 ^ n) (hp2 : p ≠ 2 ^ (n - 1)) : nb (pvI p n).natAbs ≤ 310 := by
  have e2 : 2 ^ n = 2 * 2 ^ (n - 1) := by rw [Nat.mul_comm, ← Nat.pow_succ]; congr 1; omega
  unfold pvI
  split
  · decide
  · split
    · rename_i c1 c2
      obtain ⟨r, t, h⟩ := dec_ex (u := p) (n := n) hn.1 (by omega) (by omega) c2
      rw [Int.natAbs_natCast]; exact uv_b h
    · rename_i c1 c2
      obtain ⟨r, t, h⟩ := dec_ex (u := 2 ^ n - p) (n := n) hn.1 (by omega) (by omega) (by omega)
      rw [Int.natAbs_neg, Int.natAbs_natCast]; exact uv_b h
theorem nb_addZ {x y : Int} {k : Nat} (hx : nb x.natAbs ≤ k) (hy : nb y.natAbs ≤ k) : nb (x + y).natAbs ≤ k + 1 := by
  apply nb_le
  have h1 := nb_hi x.natAbs
  have h2 := nb_hi y.natAbs
  have h3 : 2 ^ nb x.natAbs ≤ 2 ^ k := Nat.pow_le_pow_right (by decide) hx
  have h4 : 2 ^ nb y.natAbs ≤ 2 ^ k := Nat.pow_le_pow_right (by decide) hy
  rw [Nat.pow_succ]
  omega
theorem nb_mulZ {x y : Int} : nb (x * y).natAbs ≤ nb x.natAbs + nb y.natAbs := by rw [Int.natAbs_mul]; exact nb_mul2
theorem nb_one {b : Int} (hb : b = 1 ∨ b = -1) : nb b.natAbs = 1 := by rcases hb with rfl | rfl <;> decide
theorem sgI_ne {Q : Int} (h : sgI Q ≠ 0) : Q.natAbs ≠ 0 := by
  have := sgI_c Q; omega
set_option maxHeartbeats 8000000 in
set_option maxRecDepth 100000 in
theorem p_thrown {d n tc : Nat} {wd pt tf : Nat → Nat} {Q : Nat → Int} {qn : Nat → Bool} {L : List Nat} {th : Int} {h : zH} (hM : MD h wd pt Q qn tf tc L th) :
    zM yX11_thrown cX11_thrown 1 (some .int) d 0 0 [.ref 47] h n (fun r h' n' => r = some (.int (iI th)) ∧ n' = n ∧ h' = h) := by
  obtain ⟨vs, vm, ve, sg, e, rt, at9, sz, dg, pw, tn, fm, h_47, h_48, h_49, ⟨nA, nB, nL, nR, nP, nS, nN, nD, nLo, nUp⟩, h_58, ⟨Q0, n0, hS⟩, hq, h_66, ⟨tx, h_67, hbb, htx⟩, ⟨fg, h_68⟩, ⟨fw, h_73⟩⟩ := id hM
  refine zM_of zyX11_thrown rfl (Nat.le_of_ble_eq_true rfl) (fun X hX => ?_)
  refine v_aload_n dX11_thrown_0 rfl ?_
  refine v_get fX11_162 dX11_thrown_1 h_47 (by decide) rfl ?_
  exact v_iret dX11_thrown_4 trivial (Nat.le_of_ble_eq_true rfl) (Nat.le_of_ble_eq_true rfl) ⟨rfl, rfl, rfl⟩
set_option maxHeartbeats 8000000 in
set_option maxRecDepth 100000 in
theorem p_Mpattern {d n tc : Nat} {wd pt tf : Nat → Nat} {Q : Nat → Int} {qn : Nat → Bool} {L : List Nat} {th p : Int} {h : zH} (hM : MD h wd pt Q qn tf tc L th) (hp : -2147483648 ≤ p ∧ p < 2147483648) (hd : 1 ≤ d) :
    zM yX11_pattern cX11_pattern 2 (some .long) d 0 0 [.ref 47, .int (iI p)] h n (fun r h' n' => r = some (.long (jL (cond (isP p) (pt p.toNat) 0 : Nat))) ∧ n' = n ∧ MD h' wd pt Q qn tf tc L (thr (isP p) true) ∧ zFr MOL h h') := by
  obtain ⟨vs, vm, ve, sg, e, rt, at9, sz, dg, pw, tn, fm, h_47, h_48, h_49, ⟨nA, nB, nL, nR, nP, nS, nN, nD, nLo, nUp⟩, h_58, ⟨Q0, n0, hS⟩, hq, h_66, ⟨tx, h_67, hbb, htx⟩, ⟨fg, h_68⟩, ⟨fw, h_73⟩⟩ := id hM
  refine zM_of zyX11_pattern rfl (Nat.le_of_ble_eq_true rfl) (fun X hX => ?_)
  have fr : zFr MOL h h := zFr.rf
  refine v_aload_n dX11_pattern_0 rfl ?_
  refine v_iload_n dX11_pattern_1 rfl ?_
  refine v_cS (av := [.int (iI p)]) (st := [.ref 47]) zyX11_isPlace lX11_165 (p_isPlace (d := 0) hp) dX11_pattern_2 rfl rfl (Nat.le_of_ble_eq_true rfl) (by omega) (Nat.le_of_ble_eq_true rfl) (Nat.le_of_ble_eq_true rfl) (Or.inl (fun _ _ _ q => ZN q)) (fun r9 K1 n9 q9 => ?_)
  obtain ⟨rfl, q9n, q9h⟩ := q9
  have q9n := q9n.symm
  subst q9n
  have q9h := q9h.symm
  subst q9h
  refine w_ei (bz (isP p)) rfl ?_
  refine v_iconst (iI 1) dX11_pattern_5 rfl ?_
  refine w_ei (bz true) rfl ?_
  refine v_cV (av := [.int (iI (bz (isP p))), .int (iI (bz true))]) (st := []) zyX11_goes lX11_172 h_47 rfl (p_goes (d := 0) h_47) dX11_pattern_6 rfl rfl (Nat.le_of_ble_eq_true rfl) (by omega) (Nat.le_of_ble_eq_true rfl) (Nat.le_of_ble_eq_true rfl) (Or.inl (fun _ _ _ q => ZN q)) (fun r9 G1 n9 q9 => ?_)
  obtain ⟨rfl, q9n, h_47, fr9⟩ := q9
  have q9n := q9n.symm
  subst q9n
  rw [show cond (isP p) (cond true (0 : Int) 2) 1 = thr (isP p) true from rfl] at h_47
  have h_48 := (fr9 48 (by decide)).trans h_48
  have h_49 := (fr9 49 (by decide)).trans h_49
  have h_58 := (fr9 58 (by decide)).trans h_58
  have h_66 := (fr9 66 (by decide)).trans h_66
  have h_67 := (fr9 67 (by decide)).trans h_67
  have h_68 := (fr9 68 (by decide)).trans h_68
  have h_73 := (fr9 73 (by decide)).trans h_73
  have nA := nA.fr fr9 (by decide) (by decide)
  have nB := nB.fr fr9 (by decide) (by decide)
  have nL := nL.fr fr9 (by decide) (by decide)
  have nR := nR.fr fr9 (by decide) (by decide)
  have nP := nP.fr fr9 (by decide) (by decide)
  have nS := nS.fr fr9 (by decide) (by decide)
  have nN := nN.fr fr9 (by decide) (by decide)
  have nD := nD.fr fr9 (by decide) (by decide)
  have nLo := nLo.fr fr9 (by decide) (by decide)
  have nUp := nUp.fr fr9 (by decide) (by decide)
  have hS := hS.fr fr9 (by decide) (by decide) (by decide)
  have hq := hq.fr fr9 (by decide)
  have fr := fr.tr fr9 (by decide)
  refine w_ifb_eq 21 dX11_pattern_9 (by decide) (fun c1 => ?_) (fun c1 => ?_)
  · rw [Bool.and_true] at c1
    refine v_lconst (jL 0) dX11_pattern_21 rfl ?_
    exact v_lret dX11_pattern_22 trivial (Nat.le_of_ble_eq_true rfl) (Nat.le_of_ble_eq_true rfl) ⟨by rw [c1, cond_false]; rfl, rfl, ⟨_, _, _, _, _, _, _, _, _, _, _, _, h_47, h_48, h_49, ⟨nA, nB, nL, nR, nP, nS, nN, nD, nLo, nUp⟩, h_58, ⟨_, _, hS⟩, hq, h_66, ⟨_, h_67, hbb, htx⟩, ⟨_, h_68⟩, ⟨_, h_73⟩⟩, fr⟩
  · rw [Bool.and_true] at c1
    have hpp := isP_t c1
    refine v_aload_n dX11_pattern_12 rfl ?_
    refine v_get fX11_20 dX11_pattern_13 h_47 (by decide) rfl ?_
    refine v_iload_n dX11_pattern_16 rfl ?_
    refine w_mald dX11_pattern_17 h_49 p.toNat (by omega) (by omega) (by decide) ?_
    refine v_goto 22 dX11_pattern_18 (by decide) ?_
    exact v_lret dX11_pattern_22 trivial (Nat.le_of_ble_eq_true rfl) (Nat.le_of_ble_eq_true rfl) ⟨by rw [c1, cond_true], rfl, ⟨_, _, _, _, _, _, _, _, _, _, _, _, h_47, h_48, h_49, ⟨nA, nB, nL, nR, nP, nS, nN, nD, nLo, nUp⟩, h_58, ⟨_, _, hS⟩, hq, h_66, ⟨_, h_67, hbb, htx⟩, ⟨_, h_68⟩, ⟨_, h_73⟩⟩, fr⟩
set_option maxHeartbeats 8000000 in
set_option maxRecDepth 100000 in
theorem p_Mwidth {d n tc : Nat} {wd pt tf : Nat → Nat} {Q : Nat → Int} {qn : Nat → Bool} {L : List Nat} {th p : Int} {h : zH} (hM : MD h wd pt Q qn tf tc L th) (hp : -2147483648 ≤ p ∧ p < 2147483648) (hd : 1 ≤ d) :
    zM yX11_width cX11_width 2 (some .int) d 0 0 [.ref 47, .int (iI p)] h n (fun r h' n' => r = some (.int (iI (cond (isP p) (wd p.toNat) 0 : Nat))) ∧ n' = n ∧ MD h' wd pt Q qn tf tc L (thr (isP p) true) ∧ zFr MOL h h') := by
  obtain ⟨vs, vm, ve, sg, e, rt, at9, sz, dg, pw, tn, fm, h_47, h_48, h_49, ⟨nA, nB, nL, nR, nP, nS, nN, nD, nLo, nUp⟩, h_58, ⟨Q0, n0, hS⟩, hq, h_66, ⟨tx, h_67, hbb, htx⟩, ⟨fg, h_68⟩, ⟨fw, h_73⟩⟩ := id hM
  refine zM_of zyX11_width rfl (Nat.le_of_ble_eq_true rfl) (fun X hX => ?_)
  have fr : zFr MOL h h := zFr.rf
  refine v_aload_n dX11_width_0 rfl ?_
  refine v_iload_n dX11_width_1 rfl ?_
  refine v_cS (av := [.int (iI p)]) (st := [.ref 47]) zyX11_isPlace lX11_165 (p_isPlace (d := 0) hp) dX11_width_2 rfl rfl (Nat.le_of_ble_eq_true rfl) (by omega) (Nat.le_of_ble_eq_true rfl) (Nat.le_of_ble_eq_true rfl) (Or.inl (fun _ _ _ q => ZN q)) (fun r9 K1 n9 q9 => ?_)
  obtain ⟨rfl, q9n, q9h⟩ := q9
  have q9n := q9n.symm
  subst q9n
  have q9h := q9h.symm
  subst q9h
  refine w_ei (bz (isP p)) rfl ?_
  refine v_iconst (iI 1) dX11_width_5 rfl ?_
  refine w_ei (bz true) rfl ?_
  refine v_cV (av := [.int (iI (bz (isP p))), .int (iI (bz true))]) (st := []) zyX11_goes lX11_172 h_47 rfl (p_goes (d := 0) h_47) dX11_width_6 rfl rfl (Nat.le_of_ble_eq_true rfl) (by omega) (Nat.le_of_ble_eq_true rfl) (Nat.le_of_ble_eq_true rfl) (Or.inl (fun _ _ _ q => ZN q)) (fun r9 G1 n9 q9 => ?_)
  obtain ⟨rfl, q9n, h_47, fr9⟩ := q9
  have q9n := q9n.symm
  subst q9n
  rw [show cond (isP p) (cond true (0 : Int) 2) 1 = thr (isP p) true from rfl] at h_47
  have h_48 := (fr9 48 (by decide)).trans h_48
  have h_49 := (fr9 49 (by decide)).trans h_49
  have h_58 := (fr9 58 (by decide)).trans h_58
  have h_66 := (fr9 66 (by decide)).trans h_66
  have h_67 := (fr9 67 (by decide)).trans h_67
  have h_68 := (fr9 68 (by decide)).trans h_68
  have h_73 := (fr9 73 (by decide)).trans h_73
  have nA := nA.fr fr9 (by decide) (by decide)
  have nB := nB.fr fr9 (by decide) (by decide)
  have nL := nL.fr fr9 (by decide) (by decide)
  have nR := nR.fr fr9 (by decide) (by decide)
  have nP := nP.fr fr9 (by decide) (by decide)
  have nS := nS.fr fr9 (by decide) (by decide)
  have nN := nN.fr fr9 (by decide) (by decide)
  have nD := nD.fr fr9 (by decide) (by decide)
  have nLo := nLo.fr fr9 (by decide) (by decide)
  have nUp := nUp.fr fr9 (by decide) (by decide)
  have hS := hS.fr fr9 (by decide) (by decide) (by decide)
  have hq := hq.fr fr9 (by decide)
  have fr := fr.tr fr9 (by decide)
  refine w_ifb_eq 21 dX11_width_9 (by decide) (fun c1 => ?_) (fun c1 => ?_)
  · rw [Bool.and_true] at c1
    refine v_iconst (iI 0) dX11_width_21 rfl ?_
    exact v_iret dX11_width_22 trivial (Nat.le_of_ble_eq_true rfl) (Nat.le_of_ble_eq_true rfl) ⟨by rw [c1, cond_false]; rfl, rfl, ⟨_, _, _, _, _, _, _, _, _, _, _, _, h_47, h_48, h_49, ⟨nA, nB, nL, nR, nP, nS, nN, nD, nLo, nUp⟩, h_58, ⟨_, _, hS⟩, hq, h_66, ⟨_, h_67, hbb, htx⟩, ⟨_, h_68⟩, ⟨_, h_73⟩⟩, fr⟩
  · rw [Bool.and_true] at c1
    have hpp := isP_t c1
    refine v_aload_n dX11_width_12 rfl ?_
    refine v_get fX11_24 dX11_width_13 h_47 (by decide) rfl ?_
    refine v_iload_n dX11_width_16 rfl ?_
    refine w_nald dX11_width_17 h_48 p.toNat (by omega) (by omega) (by decide) ?_
    refine v_goto 22 dX11_width_18 (by decide) ?_
    exact v_iret dX11_width_22 trivial (Nat.le_of_ble_eq_true rfl) (Nat.le_of_ble_eq_true rfl) ⟨by rw [c1, cond_true], rfl, ⟨_, _, _, _, _, _, _, _, _, _, _, _, h_47, h_48, h_49, ⟨nA, nB, nL, nR, nP, nS, nN, nD, nLo, nUp⟩, h_58, ⟨_, _, hS⟩, hq, h_66, ⟨_, h_67, hbb, htx⟩, ⟨_, h_68⟩, ⟨_, h_73⟩⟩, fr⟩
set_option maxHeartbeats 8000000 in
set_option maxRecDepth 100000 in
theorem p_goesThree {d n : Nat} {p q r : Int} {vs vm ve sg e rt th tp wr at9 sz dg pw tn fm : Int} {h : zH} (h_47 : h 47 = oModel vs vm ve sg e rt th tp wr at9 sz dg pw tn fm) (hp : -2147483648 ≤ p ∧ p < 2147483648) (hq : -2147483648 ≤ q ∧ q < 2147483648) (hr : -2147483648 ≤ r ∧ r < 2147483648) (hd : 1 ≤ d) :
    zM yX11_goesThree cX11_goesThree 4 (some .boolean) d 0 0 [.ref 47, .int (iI p), .int (iI q), .int (iI r)] h n (fun r9 h' n' => r9 = some (.int (iI (bz (isP p && (isP q && isP r))))) ∧ n' = n ∧ h' 47 = oModel vs vm ve sg e rt (thr (isP p && (isP q && isP r)) true) tp wr at9 sz dg pw tn fm ∧ zFr [47] h h') := by
  refine zM_of zyX11_goesThree rfl (Nat.le_of_ble_eq_true rfl) (fun X hX => ?_)
  have fr : zFr [47] h h := zFr.rf
  have fin : ∀ b : Bool, b = (isP p && (isP q && isP r)) → (zV X (fun r9 h' n' => r9 = some (.int (iI (bz (isP p && (isP q && isP r))))) ∧ n' = n ∧ h' 47 = oModel vs vm ve sg e rt (thr (isP p && (isP q && isP r)) true) tp wr at9 sz dg pw tn fm ∧ zFr [47] h h') cX11_goesThree 4 RX11 (some .boolean) d 0 0 27 [(0, .ref 47), (1, .int (iI p)), (2, .int (iI q)), (3, .int (iI r))] [.int (iI (bz b)), .ref 47] h n 0 0) := by
    intro b hb
    rw [← hb]
    refine v_iconst (iI 1) dX11_goesThree_27 rfl ?_
    refine w_ei (bz true) rfl ?_
    refine v_cV (av := [.int (iI (bz b)), .int (iI (bz true))]) (st := []) zyX11_goes lX11_172 h_47 rfl (p_goes (d := 0) h_47) dX11_goesThree_28 rfl rfl (Nat.le_of_ble_eq_true rfl) (by omega) (Nat.le_of_ble_eq_true rfl) (Nat.le_of_ble_eq_true rfl) (Or.inl (fun _ _ _ q => ZN q)) (fun r9 G1 n9 q9 => ?_)
    obtain ⟨rfl, q9n, h_47, fr9⟩ := q9
    have q9n := q9n.symm
    subst q9n
    refine w_ei (bz b) (by rw [Bool.and_true]) ?_
    exact v_iret dX11_goesThree_31 bz_ret (Nat.le_of_ble_eq_true rfl) (Nat.le_of_ble_eq_true rfl) ⟨rfl, rfl, h_47, fr.tr fr9 (by decide)⟩
  refine v_aload_n dX11_goesThree_0 rfl ?_
  refine v_iload_n dX11_goesThree_1 rfl ?_
  refine v_cS (av := [.int (iI p)]) (st := [.ref 47]) zyX11_isPlace lX11_165 (p_isPlace (d := 0) hp) dX11_goesThree_2 rfl rfl (Nat.le_of_ble_eq_true rfl) (by omega) (Nat.le_of_ble_eq_true rfl) (Nat.le_of_ble_eq_true rfl) (Or.inl (fun _ _ _ q => ZN q)) (fun r9 K1 n9 q9 => ?_)
  obtain ⟨rfl, q9n, q9h⟩ := q9
  have q9n := q9n.symm
  subst q9n
  have q9h := q9h.symm
  subst q9h
  refine w_ei (bz (isP p)) rfl ?_
  refine w_ifb_eq 26 dX11_goesThree_5 (by decide) (fun c1 => ?_) (fun c1 => ?_)
  · skip
    refine v_iconst (iI 0) dX11_goesThree_26 rfl ?_
    refine w_ei (bz false) rfl ?_
    exact fin false (by rw [c1]; rfl)
  · skip
    refine v_iload_n dX11_goesThree_8 rfl ?_
    refine v_cS (av := [.int (iI q)]) (st := [.ref 47]) zyX11_isPlace lX11_165 (p_isPlace (d := 0) hq) dX11_goesThree_9 rfl rfl (Nat.le_of_ble_eq_true rfl) (by omega) (Nat.le_of_ble_eq_true rfl) (Nat.le_of_ble_eq_true rfl) (Or.inl (fun _ _ _ q => ZN q)) (fun r9 K2 n9 q9 => ?_)
    obtain ⟨rfl, q9n, q9h⟩ := q9
    have q9n := q9n.symm
    subst q9n
    have q9h := q9h.symm
    subst q9h
    refine w_ei (bz (isP q)) rfl ?_
    refine w_ifb_eq 26 dX11_goesThree_12 (by decide) (fun c2 => ?_) (fun c2 => ?_)
    · skip
      refine v_iconst (iI 0) dX11_goesThree_26 rfl ?_
      refine w_ei (bz false) rfl ?_
      exact fin false (by rw [c1, c2]; rfl)
    · skip
      refine v_iload_n dX11_goesThree_15 rfl ?_
      refine v_cS (av := [.int (iI r)]) (st := [.ref 47]) zyX11_isPlace lX11_165 (p_isPlace (d := 0) hr) dX11_goesThree_16 rfl rfl (Nat.le_of_ble_eq_true rfl) (by omega) (Nat.le_of_ble_eq_true rfl) (Nat.le_of_ble_eq_true rfl) (Or.inl (fun _ _ _ q => ZN q)) (fun r9 K3 n9 q9 => ?_)
      obtain ⟨rfl, q9n, q9h⟩ := q9
      have q9n := q9n.symm
      subst q9n
      have q9h := q9h.symm
      subst q9h
      refine w_ei (bz (isP r)) rfl ?_
      refine w_ifb_eq 26 dX11_goesThree_19 (by decide) (fun c3 => ?_) (fun c3 => ?_)
      · skip
        refine v_iconst (iI 0) dX11_goesThree_26 rfl ?_
        refine w_ei (bz false) rfl ?_
        exact fin false (by rw [c1, c2, c3]; rfl)
      · skip
        refine v_iconst (iI 1) dX11_goesThree_22 rfl ?_
        refine v_goto 27 dX11_goesThree_23 (by decide) ?_
        refine w_ei (bz true) rfl ?_
        exact fin true (by rw [c1, c2, c3]; rfl)
/-- sums of two -/
noncomputable def mjS (wd pt : Nat → Nat) (p q : Nat) (b : Int) : Int := 0 + 1 * (pvI (pt p) (wd p) * (2 ^ 120 : Nat)) + b * (pvI (pt q) (wd q) * (2 ^ 120 : Nat))
noncomputable def mjn (wd pt : Nat → Nat) (p q r : Nat) (b : Int) : Nat := if pt p = 2 ^ (wd p - 1) ∨ pt q = 2 ^ (wd q - 1) then 2 ^ (wd r - 1) else rdR (sgI (mjS wd pt p q b)) (CP (mjS wd pt p q b).natAbs 1 (-240) 1) (wd r)
theorem isP_n {a : Nat} (h : a < 32) : isP (a : Int) = true := decide_eq_true (by omega)
theorem p_goesThreeT {d n a1 a2 a3 : Nat} {vs vm ve sg e rt th tp wr at9 sz dg pw tn fm : Int} {h : zH} (h_47 : h 47 = oModel vs vm ve sg e rt th tp wr at9 sz dg pw tn fm) (h1 : a1 < 32) (h2 : a2 < 32) (h3 : a3 < 32) (hd : 1 ≤ d) :
    zM yX11_goesThree cX11_goesThree 4 (some .boolean) d 0 0 [.ref 47, .int (iI (a1:Nat)), .int (iI (a2:Nat)), .int (iI (a3:Nat))] h n (fun r9 h' n' => r9 = some (.int (iI (bz true))) ∧ n' = n ∧ h' 47 = oModel vs vm ve sg e rt 0 tp wr at9 sz dg pw tn fm ∧ zFr [47] h h') := by
  have := p_goesThree (d := d) (n := n) (p := a1) (q := a2) (r := a3) h_47 (by omega) (by omega) (by omega) hd
  rw [isP_n h1, isP_n h2, isP_n h3] at this
  exact this
theorem p_goesThreeF {d n : Nat} {p q r : Int} {vs vm ve sg e rt th tp wr at9 sz dg pw tn fm : Int} {h : zH} (h_47 : h 47 = oModel vs vm ve sg e rt th tp wr at9 sz dg pw tn fm) (hp : -2147483648 ≤ p ∧ p < 2147483648) (hq : -2147483648 ≤ q ∧ q < 2147483648) (hr : -2147483648 ≤ r ∧ r < 2147483648) (hpl : (isP p && (isP q && isP r)) = false) (hd : 1 ≤ d) :
    zM yX11_goesThree cX11_goesThree 4 (some .boolean) d 0 0 [.ref 47, .int (iI p), .int (iI q), .int (iI r)] h n (fun r9 h' n' => r9 = some (.int (iI (bz false))) ∧ n' = n ∧ h' 47 = oModel vs vm ve sg e rt 1 tp wr at9 sz dg pw tn fm ∧ zFr [47] h h') := by
  have := p_goesThree (d := d) (n := n) h_47 hp hq hr hd
  rw [hpl] at this
  exact this
set_option maxHeartbeats 8000000 in
set_option maxRecDepth 100000 in
theorem p_joinedx {d n tc : Nat} {wd pt tf : Nat → Nat} {Q : Nat → Int} {qn : Nat → Bool} {L : List Nat} {th p q r b9 : Int} {h : zH} (hM : MD h wd pt Q qn tf tc L th) (hp : -2147483648 ≤ p ∧ p < 2147483648) (hq9 : -2147483648 ≤ q ∧ q < 2147483648) (hr : -2147483648 ≤ r ∧ r < 2147483648) (hpl : (isP p && (isP q && isP r)) = false) (hd : 2 ≤ d) :
    zM yX11_joined cX11_joined 5 none d 0 0 [.ref 47, .int (iI p), .int (iI q), .int (iI r), .int (iI b9)] h n (fun r9 h' n' => r9 = none ∧ n' = n ∧ MD h' wd pt Q qn tf tc L 1 ∧ zFr MOL h h') := by
  obtain ⟨vs, vm, ve, sg, e, rt, at9, sz, dg, pw, tn, fm, h_47, h_48, h_49, ⟨nA, nB, nL, nR, nP, nS, nN, nD, nLo, nUp⟩, h_58, ⟨Q0, n0, hS⟩, hq, h_66, ⟨tx, h_67, hbb, htx⟩, ⟨fg, h_68⟩, ⟨fw, h_73⟩⟩ := id hM
  refine zM_of zyX11_joined rfl (Nat.le_of_ble_eq_true rfl) (fun X hX => ?_)
  have fr : zFr MOL h h := zFr.rf
  refine v_aload_n dX11_joined_0 rfl ?_
  refine v_iload_n dX11_joined_1 rfl ?_
  refine v_iload_n dX11_joined_2 rfl ?_
  refine v_iload_n dX11_joined_3 rfl ?_
  refine v_cV (av := [.int (iI p), .int (iI q), .int (iI r)]) (st := []) zyX11_goesThree lX11_224 h_47 rfl (p_goesThreeF (d := 1) h_47 hp hq9 hr hpl (by decide)) dX11_joined_4 rfl rfl (Nat.le_of_ble_eq_true rfl) (by omega) (Nat.le_of_ble_eq_true rfl) (Nat.le_of_ble_eq_true rfl) (Or.inl (fun _ _ _ q => ZN q)) (fun r9 G1 n9 q9 => ?_)
  obtain ⟨rfl, q9n, h_47, fr9⟩ := q9
  have q9n := q9n.symm
  subst q9n
  have h_48 := (fr9 48 (by decide)).trans h_48
  have h_49 := (fr9 49 (by decide)).trans h_49
  have h_58 := (fr9 58 (by decide)).trans h_58
  have h_66 := (fr9 66 (by decide)).trans h_66
  have h_67 := (fr9 67 (by decide)).trans h_67
  have h_68 := (fr9 68 (by decide)).trans h_68
  have h_73 := (fr9 73 (by decide)).trans h_73
  have nA := nA.fr fr9 (by decide) (by decide)
  have nB := nB.fr fr9 (by decide) (by decide)
  have nL := nL.fr fr9 (by decide) (by decide)
  have nR := nR.fr fr9 (by decide) (by decide)
  have nP := nP.fr fr9 (by decide) (by decide)
  have nS := nS.fr fr9 (by decide) (by decide)
  have nN := nN.fr fr9 (by decide) (by decide)
  have nD := nD.fr fr9 (by decide) (by decide)
  have nLo := nLo.fr fr9 (by decide) (by decide)
  have nUp := nUp.fr fr9 (by decide) (by decide)
  have hS := hS.fr fr9 (by decide) (by decide) (by decide)
  have hq := hq.fr fr9 (by decide)
  have fr := fr.tr fr9 (by decide)
  refine w_ifb_ne 11 dX11_joined_7 (by decide) (fun c1 => ?_) (fun c1 => ?_)
  · exact absurd c1 (by decide)
  · skip
    exact v_vret dX11_joined_10 trivial (Nat.le_of_ble_eq_true rfl) (Nat.le_of_ble_eq_true rfl) ⟨rfl, rfl, ⟨_, _, _, _, _, _, _, _, _, _, _, _, h_47, h_48, h_49, ⟨nA, nB, nL, nR, nP, nS, nN, nD, nLo, nUp⟩, h_58, ⟨_, _, hS⟩, hq, h_66, ⟨_, h_67, hbb, htx⟩, ⟨_, h_68⟩, ⟨_, h_73⟩⟩, fr⟩
set_option maxHeartbeats 8000000 in
set_option maxRecDepth 100000 in
theorem p_joined {d n tc a1 a2 a3 : Nat} {wd pt tf : Nat → Nat} {Q : Nat → Int} {qn : Nat → Bool} {L : List Nat} {th b9 : Int} {h : zH} (hM : MD h wd pt Q qn tf tc L th) (hPL : PL wd pt) (h1 : a1 < 32) (h2 : a2 < 32) (h3 : a3 < 32) (hb9 : b9 = 1 ∨ b9 = -1) (hd : 7 ≤ d) :
    zM yX11_joined cX11_joined 5 none d 0 0 [.ref 47, .int (iI (a1:Nat)), .int (iI (a2:Nat)), .int (iI (a3:Nat)), .int (iI b9)] h n (fun r9 h' n' => r9 = none ∧ n' = n ∧ MD h' wd (zup pt a3 (mjn wd pt a1 a2 a3 b9)) Q qn tf tc L 0 ∧ zFr MOL h h') := by
  obtain ⟨vs, vm, ve, sg, e, rt, at9, sz, dg, pw, tn, fm, h_47, h_48, h_49, ⟨nA, nB, nL, nR, nP, nS, nN, nD, nLo, nUp⟩, h_58, ⟨Q0, n0, hS⟩, hq, h_66, ⟨tx, h_67, hbb, htx⟩, ⟨fg, h_68⟩, ⟨fw, h_73⟩⟩ := id hM
  have w1 := hPL a1 h1
  have w2 := hPL a2 h2
  have w3 := hPL a3 h3
  refine zM_of zyX11_joined rfl (Nat.le_of_ble_eq_true rfl) (fun X hX => ?_)
  have fr : zFr MOL h h := zFr.rf
  refine v_aload_n dX11_joined_0 rfl ?_
  refine v_iload_n dX11_joined_1 rfl ?_
  refine v_iload_n dX11_joined_2 rfl ?_
  refine v_iload_n dX11_joined_3 rfl ?_
  refine v_cV (av := [.int (iI (a1:Nat)), .int (iI (a2:Nat)), .int (iI (a3:Nat))]) (st := []) zyX11_goesThree lX11_224 h_47 rfl (p_goesThreeT (d := 6) h_47 h1 h2 h3 (by decide)) dX11_joined_4 rfl rfl (Nat.le_of_ble_eq_true rfl) (by omega) (Nat.le_of_ble_eq_true rfl) (Nat.le_of_ble_eq_true rfl) (Or.inl (fun _ _ _ q => ZN q)) (fun r9 G1 n9 q9 => ?_)
  obtain ⟨rfl, q9n, h_47, fr9⟩ := q9
  have q9n := q9n.symm
  subst q9n
  have h_48 := (fr9 48 (by decide)).trans h_48
  have h_49 := (fr9 49 (by decide)).trans h_49
  have h_58 := (fr9 58 (by decide)).trans h_58
  have h_66 := (fr9 66 (by decide)).trans h_66
  have h_67 := (fr9 67 (by decide)).trans h_67
  have h_68 := (fr9 68 (by decide)).trans h_68
  have h_73 := (fr9 73 (by decide)).trans h_73
  have nA := nA.fr fr9 (by decide) (by decide)
  have nB := nB.fr fr9 (by decide) (by decide)
  have nL := nL.fr fr9 (by decide) (by decide)
  have nR := nR.fr fr9 (by decide) (by decide)
  have nP := nP.fr fr9 (by decide) (by decide)
  have nS := nS.fr fr9 (by decide) (by decide)
  have nN := nN.fr fr9 (by decide) (by decide)
  have nD := nD.fr fr9 (by decide) (by decide)
  have nLo := nLo.fr fr9 (by decide) (by decide)
  have nUp := nUp.fr fr9 (by decide) (by decide)
  have hS := hS.fr fr9 (by decide) (by decide) (by decide)
  have hq := hq.fr fr9 (by decide)
  have fr := fr.tr fr9 (by decide)
  refine w_ifb_ne 11 dX11_joined_7 (by decide) (fun c1 => ?_) (fun c1 => ?_)
  · have nar : (pt a1 = 2 ^ (wd a1 - 1) ∨ pt a2 = 2 ^ (wd a2 - 1)) → (zV X (fun r9 h' n' => r9 = none ∧ n' = n ∧ MD h' wd (zup pt a3 (mjn wd pt a1 a2 a3 b9)) Q qn tf tc L 0 ∧ zFr MOL h h') cX11_joined 5 RX11 none d 0 0 27 [(0, .ref 47), (1, .int (iI (a1:Nat))), (2, .int (iI (a2:Nat))), (3, .int (iI (a3:Nat))), (4, .int (iI b9))] [] G1 n 0 0) := by
      intro hn
      refine v_aload_n dX11_joined_27 rfl ?_
      refine v_iload_n dX11_joined_28 rfl ?_
      refine v_cV (av := [.int (iI (a3:Nat))]) (st := []) zyX11_becomeNar lX11_182 h_47 rfl (p_becomeNar (d := 6) h_47 h_48 h_49 h3 ⟨w3.1, w3.2.1⟩) dX11_joined_29 rfl rfl (Nat.le_of_ble_eq_true rfl) (by omega) (Nat.le_of_ble_eq_true rfl) (Nat.le_of_ble_eq_true rfl) (Or.inl (fun _ _ _ q => ZN q)) (fun r9 G2 n9 q9 => ?_)
      obtain ⟨rfl, q9n, h_49, fr8⟩ := q9
      have q9n := q9n.symm
      subst q9n
      have h_47 := (fr8 47 (by decide)).trans h_47
      have h_48 := (fr8 48 (by decide)).trans h_48
      have h_58 := (fr8 58 (by decide)).trans h_58
      have h_66 := (fr8 66 (by decide)).trans h_66
      have h_67 := (fr8 67 (by decide)).trans h_67
      have h_68 := (fr8 68 (by decide)).trans h_68
      have h_73 := (fr8 73 (by decide)).trans h_73
      have nA := nA.fr fr8 (by decide) (by decide)
      have nB := nB.fr fr8 (by decide) (by decide)
      have nL := nL.fr fr8 (by decide) (by decide)
      have nR := nR.fr fr8 (by decide) (by decide)
      have nP := nP.fr fr8 (by decide) (by decide)
      have nS := nS.fr fr8 (by decide) (by decide)
      have nN := nN.fr fr8 (by decide) (by decide)
      have nD := nD.fr fr8 (by decide) (by decide)
      have nLo := nLo.fr fr8 (by decide) (by decide)
      have nUp := nUp.fr fr8 (by decide) (by decide)
      have hS := hS.fr fr8 (by decide) (by decide) (by decide)
      have hq := hq.fr fr8 (by decide)
      have fr := fr.tr fr8 (by decide)
      exact v_vret dX11_joined_32 trivial (Nat.le_of_ble_eq_true rfl) (Nat.le_of_ble_eq_true rfl) ⟨rfl, rfl, by unfold mjn; rw [if_pos hn]; exact ⟨_, _, _, _, _, _, _, _, _, _, _, _, h_47, h_48, h_49, ⟨nA, nB, nL, nR, nP, nS, nN, nD, nLo, nUp⟩, h_58, ⟨_, _, hS⟩, hq, h_66, ⟨_, h_67, hbb, htx⟩, ⟨_, h_68⟩, ⟨_, h_73⟩⟩, fr⟩
    refine v_aload_n dX11_joined_11 rfl ?_
    refine v_iload_n dX11_joined_12 rfl ?_
    refine v_cV (av := [.int (iI (a1:Nat))]) (st := []) zyX11_isNar lX11_176 h_47 rfl (p_misNar (d := 6) h_47 h_48 h_49 hPL h1) dX11_joined_13 rfl rfl (Nat.le_of_ble_eq_true rfl) (by omega) (Nat.le_of_ble_eq_true rfl) (Nat.le_of_ble_eq_true rfl) (Or.inl (fun _ _ _ q => ZN q)) (fun r9 K1 n9 q9 => ?_)
    obtain ⟨rfl, q9n, q9h⟩ := q9
    have q9n := q9n.symm
    subst q9n
    have q9h := q9h.symm
    subst q9h
    refine w_ifb_ne 27 dX11_joined_16 (by decide) (fun c2 => ?_) (fun c2 => ?_)
    · exact nar (Or.inl (of_decide_eq_true c2))
    · have c2 := of_decide_eq_false c2
      refine v_aload_n dX11_joined_19 rfl ?_
      refine v_iload_n dX11_joined_20 rfl ?_
      refine v_cV (av := [.int (iI (a2:Nat))]) (st := []) zyX11_isNar lX11_176 h_47 rfl (p_misNar (d := 6) h_47 h_48 h_49 hPL h2) dX11_joined_21 rfl rfl (Nat.le_of_ble_eq_true rfl) (by omega) (Nat.le_of_ble_eq_true rfl) (Nat.le_of_ble_eq_true rfl) (Or.inl (fun _ _ _ q => ZN q)) (fun r9 K2 n9 q9 => ?_)
      obtain ⟨rfl, q9n, q9h⟩ := q9
      have q9n := q9n.symm
      subst q9n
      have q9h := q9h.symm
      subst q9h
      refine w_ifb_eq 33 dX11_joined_24 (by decide) (fun c3 => ?_) (fun c3 => ?_)
      · have c3 := of_decide_eq_false c3
        have hn : ¬ (pt a1 = 2 ^ (wd a1 - 1) ∨ pt a2 = 2 ^ (wd a2 - 1)) := fun z => z.elim c2 c3
        have b1 := pv_b ⟨w1.1, w1.2.1⟩ w1.2.2 c2
        have b2 := pv_b ⟨w2.1, w2.2.1⟩ w2.2.2 c3
        have e120 : nb ((2 ^ 120 : Nat) : Int).natAbs ≤ 130 := nb_le (by decide)
        have b3 := nb_mulZ (x := pvI (pt a1) (wd a1)) (y := ((2 ^ 120 : Nat) : Int))
        have b4 := nb_mulZ (x := pvI (pt a2) (wd a2)) (y := ((2 ^ 120 : Nat) : Int))
        have b5 := nb_mulZ (x := 1) (y := pvI (pt a1) (wd a1) * ((2 ^ 120 : Nat) : Int))
        have b6 := nb_mulZ (x := b9) (y := pvI (pt a2) (wd a2) * ((2 ^ 120 : Nat) : Int))
        rw [nb_one (Or.inl rfl)] at b5
        rw [nb_one hb9] at b6
        have b7 := nb_addZ (x := 0) (y := 1 * (pvI (pt a1) (wd a1) * ((2 ^ 120 : Nat) : Int))) (k := 500) (Nat.zero_le _) (by omega)
        have b8 := nb_addZ (x := 0 + 1 * (pvI (pt a1) (wd a1) * ((2 ^ 120 : Nat) : Int))) (y := b9 * (pvI (pt a2) (wd a2) * ((2 ^ 120 : Nat) : Int))) (k := 501) b7 (by omega)
        refine v_aload_n dX11_joined_33 rfl ?_
        refine v_get fX11_134 dX11_joined_34 h_47 (by decide) rfl ?_
        obtain ⟨h_59, -⟩ := id hS
        refine v_cV (av := []) (st := []) zyX10_clear lX11_217 h_59 rfl (p_sclear (d := 6) hS) dX11_joined_37 rfl rfl (Nat.le_of_ble_eq_true rfl) (by omega) (Nat.le_of_ble_eq_true rfl) (Nat.le_of_ble_eq_true rfl) (Or.inl (fun _ _ _ q => ZN q)) (fun r9 G2 n9 q9 => ?_)
        obtain ⟨rfl, q9n, hS, fr8⟩ := q9
        have q9n := q9n.symm
        subst q9n
        have h_47 := (fr8 47 (by decide)).trans h_47
        have h_48 := (fr8 48 (by decide)).trans h_48
        have h_49 := (fr8 49 (by decide)).trans h_49
        have h_58 := (fr8 58 (by decide)).trans h_58
        have h_66 := (fr8 66 (by decide)).trans h_66
        have h_67 := (fr8 67 (by decide)).trans h_67
        have h_68 := (fr8 68 (by decide)).trans h_68
        have h_73 := (fr8 73 (by decide)).trans h_73
        have nA := nA.fr fr8 (by decide) (by decide)
        have nB := nB.fr fr8 (by decide) (by decide)
        have nL := nL.fr fr8 (by decide) (by decide)
        have nR := nR.fr fr8 (by decide) (by decide)
        have nP := nP.fr fr8 (by decide) (by decide)
        have nS := nS.fr fr8 (by decide) (by decide)
        have nN := nN.fr fr8 (by decide) (by decide)
        have nD := nD.fr fr8 (by decide) (by decide)
        have nLo := nLo.fr fr8 (by decide) (by decide)
        have nUp := nUp.fr fr8 (by decide) (by decide)
        have hq := hq.fr fr8 (by decide)
        have fr := fr.tr fr8 (by decide)
        refine v_aload_n dX11_joined_40 rfl ?_
        refine v_aload_n dX11_joined_41 rfl ?_
        refine v_get fX11_134 dX11_joined_42 h_47 (by decide) rfl ?_
        refine v_iload_n dX11_joined_45 rfl ?_
        refine v_iconst (iI 1) dX11_joined_46 rfl ?_
        refine v_cV (av := [.ref 59, .int (iI (a1:Nat)), .int (iI 1)]) (st := []) zyX11_gatherOne lX11_220 h_47 rfl (p_gatherOne (d := 6) h_47 h_48 h_49 hPL h1 c2 hS nP nS (by unfold gne; decide) (Or.inl rfl) (by decide) (by decide)) dX11_joined_47 rfl rfl (Nat.le_of_ble_eq_true rfl) (by omega) (Nat.le_of_ble_eq_true rfl) (Nat.le_of_ble_eq_true rfl) (Or.inl (fun _ _ _ q => ZN q)) (fun r9 G3 n9 q9 => ?_)
        obtain ⟨rfl, q9n, ⟨v1, v2, v3, h_47⟩, hS, nP, nS, fr7⟩ := q9
        have q9n := q9n.symm
        subst q9n
        have h_48 := (fr7 48 (by decide)).trans h_48
        have h_49 := (fr7 49 (by decide)).trans h_49
        have h_58 := (fr7 58 (by decide)).trans h_58
        have h_66 := (fr7 66 (by decide)).trans h_66
        have h_67 := (fr7 67 (by decide)).trans h_67
        have h_68 := (fr7 68 (by decide)).trans h_68
        have h_73 := (fr7 73 (by decide)).trans h_73
        have nA := nA.fr fr7 (by decide) (by decide)
        have nB := nB.fr fr7 (by decide) (by decide)
        have nL := nL.fr fr7 (by decide) (by decide)
        have nR := nR.fr fr7 (by decide) (by decide)
        have nN := nN.fr fr7 (by decide) (by decide)
        have nD := nD.fr fr7 (by decide) (by decide)
        have nLo := nLo.fr fr7 (by decide) (by decide)
        have nUp := nUp.fr fr7 (by decide) (by decide)
        have hq := hq.fr fr7 (by decide)
        have fr := fr.tr fr7 (by decide)
        refine v_aload_n dX11_joined_50 rfl ?_
        refine v_aload_n dX11_joined_51 rfl ?_
        refine v_get fX11_134 dX11_joined_52 h_47 (by decide) rfl ?_
        refine v_iload_n dX11_joined_55 rfl ?_
        refine v_iload dX11_joined_56 rfl ?_
        refine v_cV (av := [.ref 59, .int (iI (a2:Nat)), .int (iI b9)]) (st := []) zyX11_gatherOne lX11_220 h_47 rfl (p_gatherOne (d := 6) h_47 h_48 h_49 hPL h2 c3 hS nP nS (by unfold gne; decide) hb9 (by omega) (by decide)) dX11_joined_58 rfl rfl (Nat.le_of_ble_eq_true rfl) (by omega) (Nat.le_of_ble_eq_true rfl) (Nat.le_of_ble_eq_true rfl) (Or.inl (fun _ _ _ q => ZN q)) (fun r9 G4 n9 q9 => ?_)
        obtain ⟨rfl, q9n, ⟨v4, v5, v6, h_47⟩, hS, nP, nS, fr6⟩ := q9
        have q9n := q9n.symm
        subst q9n
        have h_48 := (fr6 48 (by decide)).trans h_48
        have h_49 := (fr6 49 (by decide)).trans h_49
        have h_58 := (fr6 58 (by decide)).trans h_58
        have h_66 := (fr6 66 (by decide)).trans h_66
        have h_67 := (fr6 67 (by decide)).trans h_67
        have h_68 := (fr6 68 (by decide)).trans h_68
        have h_73 := (fr6 73 (by decide)).trans h_73
        have nA := nA.fr fr6 (by decide) (by decide)
        have nB := nB.fr fr6 (by decide) (by decide)
        have nL := nL.fr fr6 (by decide) (by decide)
        have nR := nR.fr fr6 (by decide) (by decide)
        have nN := nN.fr fr6 (by decide) (by decide)
        have nD := nD.fr fr6 (by decide) (by decide)
        have nLo := nLo.fr fr6 (by decide) (by decide)
        have nUp := nUp.fr fr6 (by decide) (by decide)
        have hq := hq.fr fr6 (by decide)
        have fr := fr.tr fr6 (by decide)
        refine v_aload_n dX11_joined_61 rfl ?_
        refine v_aload_n dX11_joined_62 rfl ?_
        refine v_get fX11_134 dX11_joined_63 h_47 (by decide) rfl ?_
        refine v_cV (av := [.ref 59]) (st := []) zyX11_takeSum lX11_228 h_47 rfl (p_takeSum (d := 6) h_47 hS nA nB (by decide) (by decide)) dX11_joined_66 rfl rfl (Nat.le_of_ble_eq_true rfl) (by omega) (Nat.le_of_ble_eq_true rfl) (Nat.le_of_ble_eq_true rfl) (Or.inl (fun _ _ _ q => ZN q)) (fun r9 G5 n9 q9 => ?_)
        obtain ⟨rfl, q9n, h_47, hA, hB, fr5⟩ := q9
        have q9n := q9n.symm
        subst q9n
        have h_48 := (fr5 48 (by decide)).trans h_48
        have h_49 := (fr5 49 (by decide)).trans h_49
        have h_58 := (fr5 58 (by decide)).trans h_58
        have h_66 := (fr5 66 (by decide)).trans h_66
        have h_67 := (fr5 67 (by decide)).trans h_67
        have h_68 := (fr5 68 (by decide)).trans h_68
        have h_73 := (fr5 73 (by decide)).trans h_73
        have nL := nL.fr fr5 (by decide) (by decide)
        have nR := nR.fr fr5 (by decide) (by decide)
        have nP := nP.fr fr5 (by decide) (by decide)
        have nS := nS.fr fr5 (by decide) (by decide)
        have nN := nN.fr fr5 (by decide) (by decide)
        have nD := nD.fr fr5 (by decide) (by decide)
        have nLo := nLo.fr fr5 (by decide) (by decide)
        have nUp := nUp.fr fr5 (by decide) (by decide)
        have hS := hS.fr fr5 (by decide) (by decide) (by decide)
        have hq := hq.fr fr5 (by decide)
        have fr := fr.tr fr5 (by decide)
        have hSg := sgI_r (0 + 1 * (pvI (pt a1) (wd a1) * ((2 ^ 120 : Nat) : Int)) + b9 * (pvI (pt a2) (wd a2) * ((2 ^ 120 : Nat) : Int)))
        refine v_aload_n dX11_joined_69 rfl ?_
        refine v_iload_n dX11_joined_70 rfl ?_
        refine v_cV (av := [.int (iI (a3:Nat))]) (st := []) zyX11_become lX11_185 h_47 rfl (p_become (d := 6) (rt := 1) h_47 h_48 h_49 hA hB nL nR hSg (fun z => sgI_ne z) (by omega) (by decide) (by decide) (by decide) (by decide) h3 ⟨w3.1, w3.2.1⟩ (by decide)) dX11_joined_71 rfl rfl (Nat.le_of_ble_eq_true rfl) (by omega) (Nat.le_of_ble_eq_true rfl) (Nat.le_of_ble_eq_true rfl) (Or.inl (fun _ _ _ q => ZN q)) (fun r9 G6 n9 q9 => ?_)
        obtain ⟨rfl, q9n, ⟨v7, v8, v9, h_47⟩, h_49, nL, nR, fr4⟩ := q9
        have q9n := q9n.symm
        subst q9n
        have nA := hA.ns
        have nB := hB.ns
        have h_48 := (fr4 48 (by decide)).trans h_48
        have h_58 := (fr4 58 (by decide)).trans h_58
        have h_66 := (fr4 66 (by decide)).trans h_66
        have h_67 := (fr4 67 (by decide)).trans h_67
        have h_68 := (fr4 68 (by decide)).trans h_68
        have h_73 := (fr4 73 (by decide)).trans h_73
        have nA := nA.fr fr4 (by decide) (by decide)
        have nB := nB.fr fr4 (by decide) (by decide)
        have nP := nP.fr fr4 (by decide) (by decide)
        have nS := nS.fr fr4 (by decide) (by decide)
        have nN := nN.fr fr4 (by decide) (by decide)
        have nD := nD.fr fr4 (by decide) (by decide)
        have nLo := nLo.fr fr4 (by decide) (by decide)
        have nUp := nUp.fr fr4 (by decide) (by decide)
        have hS := hS.fr fr4 (by decide) (by decide) (by decide)
        have hq := hq.fr fr4 (by decide)
        have fr := fr.tr fr4 (by decide)
        exact v_vret dX11_joined_74 trivial (Nat.le_of_ble_eq_true rfl) (Nat.le_of_ble_eq_true rfl) ⟨rfl, rfl, by unfold mjn; rw [if_neg hn]; exact ⟨_, _, _, _, _, _, _, _, _, _, _, _, h_47, h_48, h_49, ⟨nA, nB, nL, nR, nP, nS, nN, nD, nLo, nUp⟩, h_58, ⟨_, _, hS⟩, hq, h_66, ⟨_, h_67, hbb, htx⟩, ⟨_, h_68⟩, ⟨_, h_73⟩⟩, fr⟩
      · exact nar (Or.inr (of_decide_eq_true c3))
  · exact absurd c1 (by decide)
