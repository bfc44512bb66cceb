/-! Forgetting a cell; the reference reads its tape -/
/-- the cells that a method began with -/
def z0 (X : zX) : Nat := X.2.2.2.2.2.2.2.2.2.2.2.2.2.2.1
theorem zM_of0 {y : MethodName} {cc : ByteArray} {nL np : Nat} {ret : Option FieldType} {own : String} {d mc ms : Nat} {av : List Value} {h : zH} {n : Nat} {Post : zP} (hY : zY y cc nL ret np) (hown : y.cls = own) (hav : (lg_sl av).length ≤ nL)
    (body : ∀ X, zI X y.name → z0 X = n → zn h n → zV X Post cc nL own ret d mc ms 0 (lv_args 0 av) [] h n 0 0) : zM y cc nL ret d mc ms av h n Post := by
  intro l D σ cy tys sz hz ht
  refine zMet (cc := cc) (maxL := nL) (ret := ret) hY.2.2.2.1 rfl ?_
  intro p e s m args below meth c s₁ B hml hv
  obtain ⟨rfl, hsz, hP, hK, hD0, hN⟩ := hv
  subst hsz
  have hts := atoms_spec (ws := Cond.code y cc nL ret :: ALL) B.pre
  have hown9 : s.vm.findClass own = some m.cls := by rw [← hown]; exact findClass_of_methodNamed B.named
  have hD := hD0.self (sz := s.heap.size)
  rw [lg_entry_eq]
  have hl := lv_entry (zS σ av) (n := nL) (by rw [lg_sl_z]; exact hav)
  rw [lv_args_z] at hl
  have K := body (p, l, e, zR d mc ms, s, m, (zS σ av).toArray, below, meth, c, MQ below (zQ Post D σ cy s.heap.size h n) (zS σ av).toArray s mc ms (va_A (zw σ cy h n) s.heap.size), D, va_A (zw σ cy h n) s.heap.size, σ, n, True) (fun _ => (name_of_methodNamed B.named B.method).1) rfl hz
  refine K ⟨B.exec, B.bytes, hml, hown9, fun w hw => hts w (List.mem_cons_of_mem _ hw), B.notSynchronized, fun q hq => Or.inr hq, hN, rfl, trivial, ?_⟩ (Nat.le_refl n) σ cy tys _ s.heap [] (fun _ _ => rfl) ⟨hz, hK, ht, hP, hD, va_S.rf⟩ hl
  intro r h' n' pc cells slots σ' cy' tys' ls H locs hp hn hc hs hr hrd h0 hO
  obtain ⟨hz', hK', ht', hP', hD', hS'⟩ := hO
  have hq : ∀ t : State, t.heap = H → s.WarmedH t.vm → zQ Post D σ cy s.heap.size h n (zS σ av).toArray s (.returned (r.map (zv σ'))) t := fun t ht9 hW =>
    ⟨⟨r, h', n', σ', cy', tys', rfl, hp, hn, h0, hz', ht', by rw [ht9]; exact hP', va_K.moved hW.alike hK', hD'⟩, hS'.F ht9⟩
  refine W.widen hc hs ?_
  have hret := B.returns
  have hlk := B.notSynchronized
  match ret, r, hr, hrd, hret, hq with
  | none, none, _, hrd, hret, hq => exact W.vret B.exec B.bytes hret hq hS'.2.2 hrd hlk
  | some .int, some (.int x), _, hrd, hret, hq => exact W.iret B.exec B.bytes hret hq hS'.2.2 hrd hlk
  | some .boolean, some (.int x), hr, hrd, hret, hq => exact W.zret B.exec B.bytes hret (by rcases hr with rfl | rfl <;> rfl) hq hS'.2.2 hrd hlk
  | some .long, some (.long x), _, hrd, hret, hq => exact W.lret B.exec B.bytes hret hq hS'.2.2 hrd hlk
theorem zw_drop {σ : Nat → Nat} {cy : Nat → ClassId} {h : zH} {n q : Nat} {c : zC} (hk : zk h n) : zw (zup σ n q) cy (zu h n c) n = zw σ cy h n := by
  unfold zw
  apply List.map_congr_left
  intro k hkn
  have hkn : k < n := List.mem_range.mp hkn
  have e2 : k ≠ n := by omega
  rw [zu_ne h c e2, hk k hkn (zup σ n q) σ (fun i hi => if_neg (by omega))]
  show (zup σ n q k, _) = _
  rw [show zup σ n q k = σ k from if_neg e2]
theorem zw_init {σ : Nat → Nat} {cy : Nat → ClassId} {h : zH} {n i : Nat} {x : Nat × va_E} (hx : (zw σ cy h n)[i]? = some x) : (zw σ cy h (n + 1))[i]? = some x := by
  have hi : i < n := by
    rcases Nat.lt_or_ge i n with q | q
    · exact q
    · rw [List.getElem?_eq_none (by rw [zw_len]; exact q)] at hx; cases hx
  rw [zw_get hi] at hx
  rw [zw_get (by omega)]; exact hx
section
variable {X : zX} {Post : zP} {cc : ByteArray} {nL : Nat} {own : String} {ret : Option FieldType} {d MC MS pc : Nat} {lv : List (Nat × Value)} {st : List Value} {h : zH} {n cells slots : Nat}
/-- the last cell is forgotten -/
theorem v_drop (h0n : z0 X ≤ n) (hk : zk h n) (hB : zB n (lv.map (fun q => q.2)) ∧ zB n st) (k : zV X Post cc nL own ret d MC MS pc lv st (zu h n zN) n cells slots) : zV X Post cc nL own ret d MC MS pc lv st h (n + 1) cells slots := by
  obtain ⟨p, l, e, R, s, m, args, below, meth, c, Q, D, A, σ0, n0, G⟩ := X
  have h0n : n0 ≤ n := h0n
  intro C hn0 σ cy tys ls H locs h0 hO hl
  obtain ⟨hz, hK, ht, hP, hD, hS⟩ := id hO
  have K := k C h0n (zup σ n (σ0 n)) cy tys ls H locs (fun j hj => by
    by_cases e9 : j = n
    · subst e9; exact if_pos rfl
    · rw [show zup σ n (σ0 n) j = σ j from if_neg e9]; exact h0 j (by omega))
    ⟨fun j hj => by
      by_cases e9 : j = n
      · subst e9; exact zu_same _ _ _
      · rw [zu_ne h zN e9]; exact hz j (by omega), hK, fun j hj a ha => by
        rw [zu_ne h zN (by omega)] at ha; exact ht j (by omega) a ha, by
      rw [zw_drop hk]; exact fun i x hx => hP i x (zw_init hx), by
      rw [zw_drop hk]; exact ⟨fun i j x y hx hy => hD.1 i j x y (zw_init hx) (zw_init hy), fun i x hx => hD.2 i x (zw_init hx)⟩, hS⟩ (by rw [zL_push hB.1]; exact hl)
  rw [zS_push hB.2] at K
  exact K
end
theorem zk_of_up {h : zH} {n : Nat} {c : zC} (hk : zk h n) : zk (zu h n c) n := fun k hkn σ σ' hσ c9 => by
  rw [zu_ne h c (by omega)]; exact hk k hkn σ σ' hσ c9
set_option maxHeartbeats 8000000 in
set_option maxRecDepth 100000 in
theorem p_Mhere {d n c i : Nat} {vs vm ve sg e rt th tp wr dg pw tn fm : Int} {f : Nat → Nat} {h : zH} (h_47 : h 47 = oModel vs vm ve sg e rt th tp wr (i:Nat) (c:Nat) dg pw tn fm) (h_66 : h 66 = aN 80 f) (hc : c ≤ 80) (hi : i ≤ 1000) :
    zM yX11_here cX11_here 1 (some .int) d 0 0 [.ref 47] h n (fun r h' n' => r = some (.int (iI (hr f c i))) ∧ n' = n ∧ h' = h) := by
  refine zM_of zyX11_here rfl (Nat.le_of_ble_eq_true rfl) (fun X hX => ?_)
  refine v_aload_n dX11_here_0 rfl ?_
  refine v_get fX11_259 dX11_here_1 h_47 (by decide) rfl ?_
  refine v_aload_n dX11_here_4 rfl ?_
  refine v_get fX11_262 dX11_here_5 h_47 (by decide) rfl ?_
  refine w_icmp_ge 23 dX11_here_8 (by decide) (by omega) (by omega) (fun c2 => ?_) (fun c2 => ?_)
  · skip
    refine v_iconst (iI (-1)) dX11_here_23 rfl ?_
    exact v_iret dX11_here_24 trivial (Nat.le_of_ble_eq_true rfl) (Nat.le_of_ble_eq_true rfl) ⟨by unfold hr; rw [if_neg (by omega)], rfl, rfl⟩
  · skip
    refine v_aload_n dX11_here_11 rfl ?_
    refine v_get fX11_138 dX11_here_12 h_47 (by decide) rfl ?_
    refine v_aload_n dX11_here_15 rfl ?_
    refine v_get fX11_259 dX11_here_16 h_47 (by decide) rfl ?_
    refine w_nald dX11_here_19 h_66 i (by omega) (by omega) (by decide) ?_
    refine v_goto 24 dX11_here_20 (by decide) ?_
    exact v_iret dX11_here_24 trivial (Nat.le_of_ble_eq_true rfl) (Nat.le_of_ble_eq_true rfl) ⟨by unfold hr; rw [if_pos (by omega)], rfl, rfl⟩
set_option maxHeartbeats 8000000 in
set_option maxRecDepth 100000 in
theorem p_MisDigit {d n c i : Nat} {vs vm ve sg e rt th tp wr dg pw tn fm : Int} {f : Nat → Nat} {h : zH} (h_47 : h 47 = oModel vs vm ve sg e rt th tp wr (i:Nat) (c:Nat) dg pw tn fm) (h_66 : h 66 = aN 80 f) (hf : bb f) (hc : c ≤ 80) (hi : i ≤ 1000) (hd : 1 ≤ d) :
    zM yX11_isDigit cX11_isDigit 1 (some .boolean) d 0 0 [.ref 47] h n (fun r h' n' => r = some (.int (iI (bz (isd (hr f c i))))) ∧ n' = n ∧ h' = h) := by
  have hh := hr_r hf c i
  refine zM_of zyX11_isDigit rfl (Nat.le_of_ble_eq_true rfl) (fun X hX => ?_)
  refine v_aload_n dX11_isDigit_0 rfl ?_
  refine v_cV (av := []) (st := []) zyX11_here lX11_264 h_47 rfl (p_Mhere (d := 0) h_47 h_66 hc hi) dX11_isDigit_1 rfl rfl (Nat.le_of_ble_eq_true rfl) (by omega) (Nat.le_of_ble_eq_true rfl) (Nat.le_of_ble_eq_true rfl) (Or.inl (fun _ _ _ q => ZN q)) (fun r9 K1 n9 q9 => ?_)
  obtain ⟨rfl, q9n, q9h⟩ := q9
  have q9n := q9n.symm
  subst q9n
  have q9h := q9h.symm
  subst q9h
  refine v_bipush (iI 48) dX11_isDigit_4 rfl ?_
  refine w_icmp_lt 22 dX11_isDigit_6 (by decide) (by omega) (by decide) (fun c1 => ?_) (fun c1 => ?_)
  · skip
    refine v_iconst (iI 0) dX11_isDigit_22 rfl ?_
    refine w_ei (bz false) rfl ?_
    exact v_iret dX11_isDigit_23 bz_ret (Nat.le_of_ble_eq_true rfl) (Nat.le_of_ble_eq_true rfl) ⟨by unfold isd; rw [decide_eq_false (by omega)], rfl, rfl⟩
  · skip
    refine v_aload_n dX11_isDigit_9 rfl ?_
    refine v_cV (av := []) (st := []) zyX11_here lX11_264 h_47 rfl (p_Mhere (d := 0) h_47 h_66 hc hi) dX11_isDigit_10 rfl rfl (Nat.le_of_ble_eq_true rfl) (by omega) (Nat.le_of_ble_eq_true rfl) (Nat.le_of_ble_eq_true rfl) (Or.inl (fun _ _ _ q => ZN q)) (fun r9 K2 n9 q9 => ?_)
    obtain ⟨rfl, q9n, q9h⟩ := q9
    have q9n := q9n.symm
    subst q9n
    have q9h := q9h.symm
    subst q9h
    refine v_bipush (iI 57) dX11_isDigit_13 rfl ?_
    refine w_icmp_gt 22 dX11_isDigit_15 (by decide) (by omega) (by decide) (fun c2 => ?_) (fun c2 => ?_)
    · skip
      refine v_iconst (iI 0) dX11_isDigit_22 rfl ?_
      refine w_ei (bz false) rfl ?_
      exact v_iret dX11_isDigit_23 bz_ret (Nat.le_of_ble_eq_true rfl) (Nat.le_of_ble_eq_true rfl) ⟨by unfold isd; rw [decide_eq_false (by omega)], rfl, rfl⟩
    · skip
      refine v_iconst (iI 1) dX11_isDigit_18 rfl ?_
      refine v_goto 23 dX11_isDigit_19 (by decide) ?_
      refine w_ei (bz true) rfl ?_
      exact v_iret dX11_isDigit_23 bz_ret (Nat.le_of_ble_eq_true rfl) (Nat.le_of_ble_eq_true rfl) ⟨by unfold isd; rw [decide_eq_true (by omega)], rfl, rfl⟩
set_option maxHeartbeats 8000000 in
set_option maxRecDepth 100000 in
theorem p_isNumber {d n c i tk D : Nat} {vs vm ve sg e rt th tp wr pw tn fm : Int} {f : Nat → Nat} {h : zH} (h_47 : h 47 = oModel vs vm ve sg e rt th tp wr (i:Nat) (c:Nat) (tk:Nat) pw tn fm) (h_66 : h 66 = aN 80 f) (hw : ND h 50 51 D) (hf : bb f) (hc : c ≤ 80) (hi : i ≤ c) (htk : tk ≤ 60) (hD : D < 10 ^ tk) (hd : 2 ≤ d) :
    zM yX11_isNumber cX11_isNumber 1 (some .boolean) d 0 0 [.ref 47] h n (fun r h' n' => r = some (.int (iI (bz ((sdg f (c - i) i tk D).1 && decide (i < (sdg f (c - i) i tk D).2.1))))) ∧ n' = n ∧ h' 47 = oModel vs vm ve sg e rt th tp wr ((sdg f (c - i) i tk D).2.1:Nat) (c:Nat) ((sdg f (c - i) i tk D).2.2.1:Nat) pw tn fm ∧ ND h' 50 51 (sdg f (c - i) i tk D).2.2.2 ∧ zFr [47, 50, 51] h h') := by
  have hpow : (10 : Nat) ^ 61 < 2 ^ 12000 := Nat.lt_of_lt_of_le (show (10 : Nat) ^ 61 < 2 ^ 300 by decide) (Nat.pow_le_pow_right (by decide) (by decide))
  obtain ⟨R, eR⟩ : ∃ R, (sdg f (c - i) i tk D) = R := ⟨_, rfl⟩
  refine zM_of zyX11_isNumber rfl (Nat.le_of_ble_eq_true rfl) (fun X hX => ?_)
  have fr : zFr [47, 50, 51] h h := zFr.rf
  have loop : ∀ (m j t E : Nat) (H : zH), j + m = c → i ≤ j → t ≤ 60 → E < 10 ^ t → sdg f m j t E = R → (i < j ∨ (isd (hr f c j) = true ∧ t ≠ 60)) → H 47 = oModel vs vm ve sg e rt th tp wr (j:Nat) (c:Nat) (t:Nat) pw tn fm → H 66 = aN 80 f → ND H 50 51 E → zFr [47, 50, 51] h H → (zV X (fun r h' n' => r = some (.int (iI (bz ((sdg f (c - i) i tk D).1 && decide (i < (sdg f (c - i) i tk D).2.1))))) ∧ n' = n ∧ h' 47 = oModel vs vm ve sg e rt th tp wr ((sdg f (c - i) i tk D).2.1:Nat) (c:Nat) ((sdg f (c - i) i tk D).2.2.1:Nat) pw tn fm ∧ ND h' 50 51 (sdg f (c - i) i tk D).2.2.2 ∧ zFr [47, 50, 51] h h') cX11_isNumber 1 RX11 (some .boolean) d 0 0 18 [(0, .ref 47)] [] H n 0 0) := by
    intro m
    induction m with
    | zero =>
      intro j t E H hj hij ht hE eq9 hfst h_47 h_66 hw fr
      have eq8 : (true, j, t, E) = R := eq9
      have ehr : hr f c j = -1 := by unfold hr; rw [if_neg (by omega)]
      have e0 : isd (hr f c j) = false := by rw [ehr]; rfl
      have hij2 : i < j := by
        rcases hfst with q | q
        · exact q
        · rw [e0] at q; exact absurd q.1 (by decide)
      rw [eR, ← eq8]
      refine v_aload_n dX11_isNumber_18 rfl ?_
      refine v_cV (av := []) (st := []) zyX11_isDigit lX11_267 h_47 rfl (p_MisDigit (d := 1) h_47 h_66 hf hc (by omega) (by decide)) dX11_isNumber_19 rfl rfl (Nat.le_of_ble_eq_true rfl) (by omega) (Nat.le_of_ble_eq_true rfl) (Nat.le_of_ble_eq_true rfl) (Or.inl (fun _ _ _ q => ZN q)) (fun r9 K1 n9 q9 => ?_)
      obtain ⟨rfl, q9n, q9h⟩ := q9
      have q9n := q9n.symm
      subst q9n
      have q9h := q9h.symm
      subst q9h
      refine w_ifb_eq 76 dX11_isNumber_22 (by decide) (fun c1 => ?_) (fun c1 => ?_)
      · skip
        refine v_iconst (iI 1) dX11_isNumber_76 rfl ?_
        refine w_ei (bz true) rfl ?_
        exact v_iret dX11_isNumber_77 bz_ret (Nat.le_of_ble_eq_true rfl) (Nat.le_of_ble_eq_true rfl) ⟨by rw [show (true && decide (i < j)) = true from by rw [decide_eq_true hij2]; rfl], rfl, h_47, hw, fr⟩
      · rw [e0] at c1; exact absurd c1 (by decide)
    | succ m ih =>
      intro j t E H hj hij ht hE eq9 hfst h_47 h_66 hw fr
      have ehr : hr f c j = f j := by unfold hr; rw [if_pos (by omega)]
      refine v_aload_n dX11_isNumber_18 rfl ?_
      refine v_cV (av := []) (st := []) zyX11_isDigit lX11_267 h_47 rfl (p_MisDigit (d := 1) h_47 h_66 hf hc (by omega) (by decide)) dX11_isNumber_19 rfl rfl (Nat.le_of_ble_eq_true rfl) (by omega) (Nat.le_of_ble_eq_true rfl) (Nat.le_of_ble_eq_true rfl) (Or.inl (fun _ _ _ q => ZN q)) (fun r9 K1 n9 q9 => ?_)
      obtain ⟨rfl, q9n, q9h⟩ := q9
      have q9n := q9n.symm
      subst q9n
      have q9h := q9h.symm
      subst q9h
      refine w_ifb_eq 76 dX11_isNumber_22 (by decide) (fun c1 => ?_) (fun c1 => ?_)
      · have hij2 : i < j := by
          rcases hfst with q | q
          · exact q
          · rw [c1] at q; exact absurd q.1 (by decide)
        have eq8 : (true, j, t, E) = R := by rw [← eq9]; unfold sdg; rw [ehr] at c1; rw [if_neg (by rw [c1]; decide)]
        rw [eR, ← eq8]
        refine v_iconst (iI 1) dX11_isNumber_76 rfl ?_
        refine w_ei (bz true) rfl ?_
        exact v_iret dX11_isNumber_77 bz_ret (Nat.le_of_ble_eq_true rfl) (Nat.le_of_ble_eq_true rfl) ⟨by rw [show (true && decide (i < j)) = true from by rw [decide_eq_true hij2]; rfl], rfl, h_47, hw, fr⟩
      · have c2' : isd (f j) = true := by rw [← ehr]; exact c1
        have hdj := isd_t c2'
        refine v_aload_n dX11_isNumber_25 rfl ?_
        refine v_get fX11_271 dX11_isNumber_26 h_47 (by decide) rfl ?_
        refine v_bipush (iI 60) dX11_isNumber_29 rfl ?_
        refine w_icmp_ne 36 dX11_isNumber_31 (by decide) (by omega) (by decide) (fun c3 => ?_) (fun c3 => ?_)
        · have e9 : R = sdg f m (j + 1) (t + 1) (E * 10 + (f j - 48)) := by rw [← eq9]; show (if _ then _ else _) = _; rw [if_pos c2', if_neg (by omega)]
          have hE2 : E * 10 + (f j - 48) < 10 ^ (t + 1) := by rw [Nat.pow_succ]; omega
          have hp60 : (10 : Nat) ^ (t + 1) ≤ 10 ^ 61 := Nat.pow_le_pow_right (by decide) (by omega)
          refine v_aload_n dX11_isNumber_36 rfl ?_
          refine v_get fX11_35 dX11_isNumber_37 h_47 (by decide) rfl ?_
          refine v_ldc2_w (v := jL 10) kX11_274 dX11_isNumber_40 ?_
          refine v_aload_n dX11_isNumber_43 rfl ?_
          refine v_cV (av := []) (st := [.long (jL 10), .ref 50]) zyX11_here lX11_264 h_47 rfl (p_Mhere (d := 1) h_47 h_66 hc (by omega)) dX11_isNumber_44 rfl rfl (Nat.le_of_ble_eq_true rfl) (by omega) (Nat.le_of_ble_eq_true rfl) (Nat.le_of_ble_eq_true rfl) (Or.inl (fun _ _ _ q => ZN q)) (fun r9 K2 n9 q9 => ?_)
          obtain ⟨rfl, q9n, q9h⟩ := q9
          have q9n := q9n.symm
          subst q9n
          have q9h := q9h.symm
          subst q9h
          rw [ehr]
          refine w_ei (f j:Nat) rfl ?_
          refine v_bipush (iI 48) dX11_isNumber_47 rfl ?_
          refine w_isub dX11_isNumber_49 ?_
          refine w_ei (f j - 48:Nat) (by omega) ?_
          obtain ⟨_, _, h_50, -⟩ := id hw
          refine v_cV (av := [.long (jL 10), .int (iI (f j - 48:Nat))]) (st := []) zyX9_times lX11_64 h_50 rfl (p_ntimes (d := 1) (x := 10) (y := f j - 48) hw (by decide) (by omega) (by omega)) dX11_isNumber_50 rfl rfl (Nat.le_of_ble_eq_true rfl) (by omega) (Nat.le_of_ble_eq_true rfl) (Nat.le_of_ble_eq_true rfl) (Or.inl (fun _ _ _ q => ZN q)) (fun r9 G2 n9 q9 => ?_)
          obtain ⟨rfl, q9n, -, hw, fr9⟩ := q9
          have q9n := q9n.symm
          subst q9n
          have hw := hw (by decide)
          have h_47 := (fr9 47 (by decide)).trans h_47
          have h_66 := (fr9 66 (by decide)).trans h_66
          have fr := fr.tr fr9 (by decide)
          refine v_aload_n dX11_isNumber_53 rfl ?_
          refine v_dup dX11_isNumber_54 rfl ?_
          refine v_get fX11_271 dX11_isNumber_55 h_47 (by decide) rfl ?_
          refine v_iconst (iI 1) dX11_isNumber_58 rfl ?_
          refine w_iadd dX11_isNumber_59 ?_
          refine w_ei (t + 1:Nat) (by omega) ?_
          refine v_put (fs' := [.int (iI vs), .long (jL vm), .int (iI ve), .ref 48, .ref 49, .int (iI sg), .ref 50, .ref 52, .int (iI e), .int (iI rt), .ref 54, .ref 56, .ref 58, .ref 59, .ref 62, .ref 64, .int (iI th), .ref 66, .int (iI tp), .ref 67, .int (iI wr), .int (iI (j:Nat)), .int (iI (c:Nat)), .int (iI (t + 1:Nat)), .int (iI pw), .ref 68, .ref 69, .ref 71, .int (iI tn), .ref 73, .int (iI fm), .ref 74, .ref 76]) fX11_271 dX11_isNumber_60 h_47 (by decide) (Nat.le_of_ble_eq_true rfl) rfl rfl rfl (fun H1 eH1 => ?_)
          have h_47 : H1 47 = oModel vs vm ve sg e rt th tp wr (j:Nat) (c:Nat) (t + 1:Nat) pw tn fm := zf_same eH1
          have h_66 := (zf_ne eH1 (by decide)).trans h_66
          have fr := fr.put eH1 (by simp)
          refine v_aload_n dX11_isNumber_63 rfl ?_
          refine v_dup dX11_isNumber_64 rfl ?_
          refine v_get fX11_259 dX11_isNumber_65 h_47 (by decide) rfl ?_
          refine v_iconst (iI 1) dX11_isNumber_68 rfl ?_
          refine w_iadd dX11_isNumber_69 ?_
          refine w_ei (j + 1:Nat) (by omega) ?_
          refine v_put (fs' := [.int (iI vs), .long (jL vm), .int (iI ve), .ref 48, .ref 49, .int (iI sg), .ref 50, .ref 52, .int (iI e), .int (iI rt), .ref 54, .ref 56, .ref 58, .ref 59, .ref 62, .ref 64, .int (iI th), .ref 66, .int (iI tp), .ref 67, .int (iI wr), .int (iI (j + 1:Nat)), .int (iI (c:Nat)), .int (iI (t + 1:Nat)), .int (iI pw), .ref 68, .ref 69, .ref 71, .int (iI tn), .ref 73, .int (iI fm), .ref 74, .ref 76]) fX11_259 dX11_isNumber_70 h_47 (by decide) (Nat.le_of_ble_eq_true rfl) rfl rfl rfl (fun H2 eH2 => ?_)
          have h_47 : H2 47 = oModel vs vm ve sg e rt th tp wr (j + 1:Nat) (c:Nat) (t + 1:Nat) pw tn fm := zf_same eH2
          have h_66 := (zf_ne eH2 (by decide)).trans h_66
          have fr := fr.put eH2 (by simp)
          refine v_goto 18 dX11_isNumber_73 (by decide) ?_
          have fz : zFr [47] G2 H2 := (zFr.put zFr.rf eH1 (by simp)).put eH2 (by simp)
          exact ih (j + 1) (t + 1) (E * 10 + (f j - 48)) _ (by omega) (by omega) (by omega) hE2 e9.symm (Or.inl (by omega)) h_47 h_66 (hw.fr fz (by decide) (by decide)) fr
        · have e9 : R = (false, j, t, E) := by rw [← eq9]; show (if _ then _ else _) = _; rw [if_pos c2', if_pos (by omega)]
          rw [eR, e9]
          refine v_iconst (iI 0) dX11_isNumber_34 rfl ?_
          refine w_ei (bz false) rfl ?_
          exact v_iret dX11_isNumber_35 bz_ret (Nat.le_of_ble_eq_true rfl) (Nat.le_of_ble_eq_true rfl) ⟨rfl, rfl, h_47, hw, fr⟩
  refine v_aload_n dX11_isNumber_0 rfl ?_
  refine v_cV (av := []) (st := []) zyX11_isDigit lX11_267 h_47 rfl (p_MisDigit (d := 1) h_47 h_66 hf hc (by omega) (by decide)) dX11_isNumber_1 rfl rfl (Nat.le_of_ble_eq_true rfl) (by omega) (Nat.le_of_ble_eq_true rfl) (Nat.le_of_ble_eq_true rfl) (Or.inl (fun _ _ _ q => ZN q)) (fun r9 K1 n9 q9 => ?_)
  obtain ⟨rfl, q9n, q9h⟩ := q9
  have q9n := q9n.symm
  subst q9n
  have q9h := q9h.symm
  subst q9h
  refine w_ifb_eq 16 dX11_isNumber_4 (by decide) (fun c1 => ?_) (fun c1 => ?_)
  · have e9 : R = (true, i, tk, D) := by
      rw [← eR]
      rcases Nat.lt_or_ge i c with q | q
      · have ehr : hr f c i = f i := by unfold hr; rw [if_pos q]
        rw [show c - i = (c - i - 1) + 1 from by omega]; unfold sdg; rw [ehr] at c1; rw [if_neg (by rw [c1]; decide)]
      · rw [show c - i = 0 from by omega]; rfl
    rw [eR, e9]
    refine v_iconst (iI 0) dX11_isNumber_16 rfl ?_
    refine w_ei (bz false) rfl ?_
    exact v_iret dX11_isNumber_17 bz_ret (Nat.le_of_ble_eq_true rfl) (Nat.le_of_ble_eq_true rfl) ⟨by rw [show (true && decide (i < i)) = false from by rw [decide_eq_false (by omega)]; rfl], rfl, h_47, hw, fr⟩
  · have hdj := isd_t c1
    have hin := hr_in (f := f) (c := c) (i := i) (by omega)
    refine v_aload_n dX11_isNumber_7 rfl ?_
    refine v_get fX11_271 dX11_isNumber_8 h_47 (by decide) rfl ?_
    refine v_bipush (iI 60) dX11_isNumber_11 rfl ?_
    refine w_icmp_ne 18 dX11_isNumber_13 (by decide) (by omega) (by decide) (fun c3 => ?_) (fun c3 => ?_)
    · exact loop (c - i) i tk D h (by omega) (Nat.le_refl _) htk hD eR (Or.inr ⟨c1, by omega⟩) h_47 h_66 hw fr
    · have e9 : R = (false, i, tk, D) := by
        rw [← eR, show c - i = (c - i - 1) + 1 from by omega]; show (if _ then _ else _) = _
        rw [hin.2] at c1
        rw [if_pos c1, if_pos (by omega)]
      rw [eR, e9]
      refine v_iconst (iI 0) dX11_isNumber_16 rfl ?_
      refine w_ei (bz false) rfl ?_
      exact v_iret dX11_isNumber_17 bz_ret (Nat.le_of_ble_eq_true rfl) (Nat.le_of_ble_eq_true rfl) ⟨rfl, rfl, h_47, hw, fr⟩
set_option maxHeartbeats 8000000 in
set_option maxRecDepth 100000 in
theorem p_isPowerTold {d n c i : Nat} {vs vm ve sg e rt th tp wr dg pw tn fm : Int} {f : Nat → Nat} {h : zH} (h_47 : h 47 = oModel vs vm ve sg e rt th tp wr (i:Nat) (c:Nat) dg pw tn fm) (h_66 : h 66 = aN 80 f) (hf : bb f) (hc : c ≤ 80) (hi : i ≤ c) (hd : 2 ≤ d) :
    zM yX11_isPowerTold cX11_isPowerTold 4 (some .boolean) d 0 0 [.ref 47] h n (fun r h' n' => r = some (.int (iI (bz (decide (sgnAt f c i < (spw f c 3 (sgnAt f c i) 0).1))))) ∧ n' = n ∧ h' 47 = oModel vs vm ve sg e rt th tp wr ((spw f c 3 (sgnAt f c i) 0).1:Nat) (c:Nat) dg (pw + cond (decide (hr f c i = 45)) (-((spw f c 3 (sgnAt f c i) 0).2 : Int)) (spw f c 3 (sgnAt f c i) 0).2) tn fm ∧ zFr [47] h h') := by
  obtain ⟨s, es⟩ : ∃ s, sgnAt f c i = s := ⟨_, rfl⟩
  have hs := sgnAt_r (f := f) hi
  obtain ⟨R, eR⟩ : ∃ R, spw f c 3 s 0 = R := ⟨_, rfl⟩
  have hb := spw_b (f := f) (c := c) 3 s 0 0 (by omega) (by decide)
  obtain ⟨dn, edn⟩ : ∃ dn, decide (hr f c i = 45) = dn := ⟨_, rfl⟩
  rw [es] at hs
  rw [eR] at hb
  rw [es, eR, edn]
  have hh := hr_r hf c i
  refine zM_of zyX11_isPowerTold rfl (Nat.le_of_ble_eq_true rfl) (fun X hX => ?_)
  have fr : zFr [47] h h := zFr.rf
  have go : ∀ H : zH, H 47 = oModel vs vm ve sg e rt th tp wr (s:Nat) (c:Nat) dg pw tn fm → H 66 = aN 80 f → zFr [47] h H → (zV X (fun r h' n' => r = some (.int (iI (bz (decide (sgnAt f c i < (spw f c 3 (sgnAt f c i) 0).1))))) ∧ n' = n ∧ h' 47 = oModel vs vm ve sg e rt th tp wr ((spw f c 3 (sgnAt f c i) 0).1:Nat) (c:Nat) dg (pw + cond (decide (hr f c i = 45)) (-((spw f c 3 (sgnAt f c i) 0).2 : Int)) (spw f c 3 (sgnAt f c i) 0).2) tn fm ∧ zFr [47] h h') cX11_isPowerTold 4 RX11 (some .boolean) d 0 0 38 [(0, .ref 47), (1, .int (iI (bz dn)))] [] H n 0 0) := by
    intro H h_47 h_66 fr
    rw [es, eR, edn]
    have fin : ∀ (k : Int) (H : zH), s < R.1 → H 47 = oModel vs vm ve sg e rt th tp wr (R.1:Nat) (c:Nat) dg pw tn fm → H 66 = aN 80 f → zFr [47] h H → (zV X (fun r h' n' => r = some (.int (iI (bz (decide (sgnAt f c i < (spw f c 3 (sgnAt f c i) 0).1))))) ∧ n' = n ∧ h' 47 = oModel vs vm ve sg e rt th tp wr ((spw f c 3 (sgnAt f c i) 0).1:Nat) (c:Nat) dg (pw + cond (decide (hr f c i = 45)) (-((spw f c 3 (sgnAt f c i) 0).2 : Int)) (spw f c 3 (sgnAt f c i) 0).2) tn fm ∧ zFr [47] h h') cX11_isPowerTold 4 RX11 (some .boolean) d 0 0 92 [(0, .ref 47), (1, .int (iI (bz dn))), (2, .int (iI (R.2:Nat))), (3, .int (iI k))] [] H n 0 0) := by
      intro k H hlt h_47 h_66 fr
      rw [es, eR, edn]
      refine v_aload_n dX11_isPowerTold_92 rfl ?_
      refine v_dup dX11_isPowerTold_93 rfl ?_
      refine v_get fX11_276 dX11_isPowerTold_94 h_47 (by decide) rfl ?_
      refine v_iload_n dX11_isPowerTold_97 rfl ?_
      refine w_ifb_eq 106 dX11_isPowerTold_98 (by decide) (fun c1 => ?_) (fun c1 => ?_)
      · skip
        refine v_iload_n dX11_isPowerTold_106 rfl ?_
        refine w_iadd dX11_isPowerTold_107 ?_
        refine w_ei (pw + cond dn (-(R.2 : Int)) R.2) (by rw [c1, cond_false]) ?_
        refine v_put (fs' := [.int (iI vs), .long (jL vm), .int (iI ve), .ref 48, .ref 49, .int (iI sg), .ref 50, .ref 52, .int (iI e), .int (iI rt), .ref 54, .ref 56, .ref 58, .ref 59, .ref 62, .ref 64, .int (iI th), .ref 66, .int (iI tp), .ref 67, .int (iI wr), .int (iI (R.1:Nat)), .int (iI (c:Nat)), .int (iI dg), .int (iI (pw + cond dn (-(R.2 : Int)) R.2)), .ref 68, .ref 69, .ref 71, .int (iI tn), .ref 73, .int (iI fm), .ref 74, .ref 76]) fX11_276 dX11_isPowerTold_108 h_47 (by decide) (Nat.le_of_ble_eq_true rfl) rfl rfl rfl (fun H1 eH1 => ?_)
        have h_47 : H1 47 = oModel vs vm ve sg e rt th tp wr (R.1:Nat) (c:Nat) dg (pw + cond dn (-(R.2 : Int)) R.2) tn fm := zf_same eH1
        have h_66 := (zf_ne eH1 (by decide)).trans h_66
        have fr := fr.put eH1 (by simp)
        refine v_iconst (iI 1) dX11_isPowerTold_111 rfl ?_
        refine w_ei (bz true) rfl ?_
        exact v_iret dX11_isPowerTold_112 bz_ret (Nat.le_of_ble_eq_true rfl) (Nat.le_of_ble_eq_true rfl) ⟨by rw [decide_eq_true hlt], rfl, h_47, fr⟩
      · skip
        refine v_iload_n dX11_isPowerTold_101 rfl ?_
        refine w_ineg dX11_isPowerTold_102 ?_
        refine v_goto 107 dX11_isPowerTold_103 (by decide) ?_
        refine w_iadd dX11_isPowerTold_107 ?_
        refine w_ei (pw + cond dn (-(R.2 : Int)) R.2) (by rw [c1, cond_true]) ?_
        refine v_put (fs' := [.int (iI vs), .long (jL vm), .int (iI ve), .ref 48, .ref 49, .int (iI sg), .ref 50, .ref 52, .int (iI e), .int (iI rt), .ref 54, .ref 56, .ref 58, .ref 59, .ref 62, .ref 64, .int (iI th), .ref 66, .int (iI tp), .ref 67, .int (iI wr), .int (iI (R.1:Nat)), .int (iI (c:Nat)), .int (iI dg), .int (iI (pw + cond dn (-(R.2 : Int)) R.2)), .ref 68, .ref 69, .ref 71, .int (iI tn), .ref 73, .int (iI fm), .ref 74, .ref 76]) fX11_276 dX11_isPowerTold_108 h_47 (by decide) (Nat.le_of_ble_eq_true rfl) rfl rfl rfl (fun H1 eH1 => ?_)
        have h_47 : H1 47 = oModel vs vm ve sg e rt th tp wr (R.1:Nat) (c:Nat) dg (pw + cond dn (-(R.2 : Int)) R.2) tn fm := zf_same eH1
        have h_66 := (zf_ne eH1 (by decide)).trans h_66
        have fr := fr.put eH1 (by simp)
        refine v_iconst (iI 1) dX11_isPowerTold_111 rfl ?_
        refine w_ei (bz true) rfl ?_
        exact v_iret dX11_isPowerTold_112 bz_ret (Nat.le_of_ble_eq_true rfl) (Nat.le_of_ble_eq_true rfl) ⟨by rw [decide_eq_true hlt], rfl, h_47, fr⟩
    rw [es, eR, edn] at fin
    have loop : ∀ (m k j x : Nat) (y : Int) (H : zH), k + m = 3 → y = k → j ≤ c → s ≤ j → x < 10 ^ k → spw f c m j x = R → (s < j ∨ (isd (hr f c j) = true ∧ m ≠ 0)) → H 47 = oModel vs vm ve sg e rt th tp wr (j:Nat) (c:Nat) dg pw tn fm → H 66 = aN 80 f → zFr [47] h H → (zV X (fun r h' n' => r = some (.int (iI (bz (decide (sgnAt f c i < (spw f c 3 (sgnAt f c i) 0).1))))) ∧ n' = n ∧ h' 47 = oModel vs vm ve sg e rt th tp wr ((spw f c 3 (sgnAt f c i) 0).1:Nat) (c:Nat) dg (pw + cond (decide (hr f c i = 45)) (-((spw f c 3 (sgnAt f c i) 0).2 : Int)) (spw f c 3 (sgnAt f c i) 0).2) tn fm ∧ zFr [47] h h') cX11_isPowerTold 4 RX11 (some .boolean) d 0 0 51 [(0, .ref 47), (1, .int (iI (bz dn))), (2, .int (iI (x:Nat))), (3, .int (iI y))] [] H n 0 0) := by
      intro m
      induction m with
      | zero =>
        intro k j x y H hk ey hj hsj hx eq9 hfst h_47 h_66 fr
        have eq8 : (j, x) = R := eq9
        rw [es, eR, edn]
        refine v_iload_n dX11_isPowerTold_51 rfl ?_
        refine v_iconst (iI 3) dX11_isPowerTold_52 rfl ?_
        refine w_icmp_ge 92 dX11_isPowerTold_53 (by decide) (by omega) (by decide) (fun c1 => ?_) (fun c1 => ?_)
        · rw [show x = R.2 from by rw [← eq8]]
          exact fin _ _ (by rw [← eq8]; rcases hfst with q | q; exact q; exact absurd rfl q.2) (by rw [← eq8]; exact h_47) h_66 fr
        · exact absurd c1 (by omega)
      | succ m ih =>
        intro k j x y H hk ey hj hsj hx eq9 hfst h_47 h_66 fr
        rw [es, eR, edn] at ih ⊢
        have hx3 : (10 : Nat) ^ k ≤ 10 ^ 2 := Nat.pow_le_pow_right (by decide) (by omega)
        refine v_iload_n dX11_isPowerTold_51 rfl ?_
        refine v_iconst (iI 3) dX11_isPowerTold_52 rfl ?_
        refine w_icmp_ge 92 dX11_isPowerTold_53 (by decide) (by omega) (by decide) (fun c1 => ?_) (fun c1 => ?_)
        · exact absurd c1 (by omega)
        · skip
          refine v_aload_n dX11_isPowerTold_56 rfl ?_
          refine v_cV (av := []) (st := []) zyX11_isDigit lX11_267 h_47 rfl (p_MisDigit (d := 1) h_47 h_66 hf hc (by omega) (by decide)) dX11_isPowerTold_57 rfl rfl (Nat.le_of_ble_eq_true rfl) (by omega) (Nat.le_of_ble_eq_true rfl) (Nat.le_of_ble_eq_true rfl) (Or.inl (fun _ _ _ q => ZN q)) (fun r9 K1 n9 q9 => ?_)
          obtain ⟨rfl, q9n, q9h⟩ := q9
          have q9n := q9n.symm
          subst q9n
          have q9h := q9h.symm
          subst q9h
          refine w_ifb_eq 92 dX11_isPowerTold_60 (by decide) (fun c2 => ?_) (fun c2 => ?_)
          · have eq8 : (j, x) = R := by rw [← eq9]; unfold spw; rw [if_neg (by rw [c2]; decide)]
            rw [show x = R.2 from by rw [← eq8]]
            exact fin _ _ (by rw [← eq8]; rcases hfst with q | q; exact q; rw [c2] at q; exact absurd q.1 (by decide)) (by rw [← eq8]; exact h_47) h_66 fr
          · have hdj := isd_t c2
            have hin := hr_in (f := f) (c := c) (i := j) (by omega)
            have e9 : spw f c m (j + 1) (10 * x + (f j - 48)) = R := by rw [← eq9]; show _ = (if _ then _ else _); rw [if_pos c2]
            refine v_bipush (iI 10) dX11_isPowerTold_63 rfl ?_
            refine v_iload_n dX11_isPowerTold_65 rfl ?_
            refine w_imul dX11_isPowerTold_66 ?_
            refine v_aload_n dX11_isPowerTold_67 rfl ?_
            refine v_cV (av := []) (st := [.int (iI (10 * (x:Nat)))]) zyX11_here lX11_264 h_47 rfl (p_Mhere (d := 1) h_47 h_66 hc (by omega)) dX11_isPowerTold_68 rfl rfl (Nat.le_of_ble_eq_true rfl) (by omega) (Nat.le_of_ble_eq_true rfl) (Nat.le_of_ble_eq_true rfl) (Or.inl (fun _ _ _ q => ZN q)) (fun r9 K2 n9 q9 => ?_)
            obtain ⟨rfl, q9n, q9h⟩ := q9
            have q9n := q9n.symm
            subst q9n
            have q9h := q9h.symm
            subst q9h
            refine w_iadd dX11_isPowerTold_71 ?_
            refine v_bipush (iI 48) dX11_isPowerTold_72 rfl ?_
            refine w_isub dX11_isPowerTold_74 ?_
            refine w_ei (10 * x + (f j - 48):Nat) (by omega) ?_
            refine v_istore_n (i := 2) (lv' := [(2, .int (iI (10 * x + (f j - 48):Nat))), (0, .ref 47), (1, .int (iI (bz dn))), (3, .int (iI y))]) dX11_isPowerTold_75 rfl (by decide) rfl ?_
            refine v_aload_n dX11_isPowerTold_76 rfl ?_
            refine v_dup dX11_isPowerTold_77 rfl ?_
            refine v_get fX11_259 dX11_isPowerTold_78 h_47 (by decide) rfl ?_
            refine v_iconst (iI 1) dX11_isPowerTold_81 rfl ?_
            refine w_iadd dX11_isPowerTold_82 ?_
            refine w_ei (j + 1:Nat) (by omega) ?_
            refine v_put (fs' := [.int (iI vs), .long (jL vm), .int (iI ve), .ref 48, .ref 49, .int (iI sg), .ref 50, .ref 52, .int (iI e), .int (iI rt), .ref 54, .ref 56, .ref 58, .ref 59, .ref 62, .ref 64, .int (iI th), .ref 66, .int (iI tp), .ref 67, .int (iI wr), .int (iI (j + 1:Nat)), .int (iI (c:Nat)), .int (iI dg), .int (iI pw), .ref 68, .ref 69, .ref 71, .int (iI tn), .ref 73, .int (iI fm), .ref 74, .ref 76]) fX11_259 dX11_isPowerTold_83 h_47 (by decide) (Nat.le_of_ble_eq_true rfl) rfl rfl rfl (fun H1 eH1 => ?_)
            have h_47 : H1 47 = oModel vs vm ve sg e rt th tp wr (j + 1:Nat) (c:Nat) dg pw tn fm := zf_same eH1
            have h_66 := (zf_ne eH1 (by decide)).trans h_66
            have fr := fr.put eH1 (by simp)
            refine w_iinc (lv' := [(3, .int (iI (y + 1))), (2, .int (iI (10 * x + (f j - 48):Nat))), (0, .ref 47), (1, .int (iI (bz dn)))]) dX11_isPowerTold_86 rfl (by decide) rfl ?_
            refine v_goto 51 dX11_isPowerTold_89 (by decide) ?_
            refine w_sub (lv2 := [(0, .ref 47), (1, .int (iI (bz dn))), (2, .int (iI (10 * x + (f j - 48):Nat))), (3, .int (iI (y + 1)))]) [2, 3, 1, 0] rfl ?_
            exact ih (k + 1) (j + 1) (10 * x + (f j - 48)) (y + 1) _ (by omega) (by omega) (by omega) (by omega) (by rw [Nat.pow_succ]; omega) e9 (Or.inl (by omega)) h_47 h_66 fr
    rw [es, eR, edn] at loop
    refine v_aload_n dX11_isPowerTold_38 rfl ?_
    refine v_cV (av := []) (st := []) zyX11_isDigit lX11_267 h_47 rfl (p_MisDigit (d := 1) h_47 h_66 hf hc (by omega) (by decide)) dX11_isPowerTold_39 rfl rfl (Nat.le_of_ble_eq_true rfl) (by omega) (Nat.le_of_ble_eq_true rfl) (Nat.le_of_ble_eq_true rfl) (Or.inl (fun _ _ _ q => ZN q)) (fun r9 K1 n9 q9 => ?_)
    obtain ⟨rfl, q9n, q9h⟩ := q9
    have q9n := q9n.symm
    subst q9n
    have q9h := q9h.symm
    subst q9h
    refine w_ifb_ne 47 dX11_isPowerTold_42 (by decide) (fun c1 => ?_) (fun c1 => ?_)
    · skip
      refine v_iconst (iI 0) dX11_isPowerTold_47 rfl ?_
      refine v_istore_n (i := 2) (lv' := [(2, .int (iI 0)), (0, .ref 47), (1, .int (iI (bz dn)))]) dX11_isPowerTold_48 rfl (by decide) rfl ?_
      refine v_iconst (iI 0) dX11_isPowerTold_49 rfl ?_
      refine v_istore_n (i := 3) (lv' := [(3, .int (iI 0)), (2, .int (iI 0)), (0, .ref 47), (1, .int (iI (bz dn)))]) dX11_isPowerTold_50 rfl (by decide) rfl ?_
      refine w_sub (lv2 := [(0, .ref 47), (1, .int (iI (bz dn))), (2, .int (iI 0)), (3, .int (iI 0))]) [2, 3, 1, 0] rfl ?_
      exact loop 3 0 s 0 0 _ rfl rfl (by omega) (by omega) (by decide) eR (Or.inr ⟨c1, by decide⟩) h_47 h_66 fr
    · have e9 : R = (s, 0) := by rw [← eR]; show (if _ then _ else _) = _; rw [if_neg (by rw [c1]; decide)]
      rw [e9]
      refine v_iconst (iI 0) dX11_isPowerTold_45 rfl ?_
      refine w_ei (bz false) rfl ?_
      exact v_iret dX11_isPowerTold_46 bz_ret (Nat.le_of_ble_eq_true rfl) (Nat.le_of_ble_eq_true rfl) ⟨by rw [decide_eq_false (by omega)], rfl, by rw [h_47]; cases dn <;> simp, fr⟩
  rw [es, eR, edn] at go
  have up : s = i + 1 → (zV X (fun r h' n' => r = some (.int (iI (bz (decide (sgnAt f c i < (spw f c 3 (sgnAt f c i) 0).1))))) ∧ n' = n ∧ h' 47 = oModel vs vm ve sg e rt th tp wr ((spw f c 3 (sgnAt f c i) 0).1:Nat) (c:Nat) dg (pw + cond (decide (hr f c i = 45)) (-((spw f c 3 (sgnAt f c i) 0).2 : Int)) (spw f c 3 (sgnAt f c i) 0).2) tn fm ∧ zFr [47] h h') cX11_isPowerTold 4 RX11 (some .boolean) d 0 0 28 [(0, .ref 47), (1, .int (iI (bz dn)))] [] h n 0 0) := by
    intro hs1
    rw [es, eR, edn]
    refine v_aload_n dX11_isPowerTold_28 rfl ?_
    refine v_dup dX11_isPowerTold_29 rfl ?_
    refine v_get fX11_259 dX11_isPowerTold_30 h_47 (by decide) rfl ?_
    refine v_iconst (iI 1) dX11_isPowerTold_33 rfl ?_
    refine w_iadd dX11_isPowerTold_34 ?_
    refine w_ei (s:Nat) (by omega) ?_
    refine v_put (fs' := [.int (iI vs), .long (jL vm), .int (iI ve), .ref 48, .ref 49, .int (iI sg), .ref 50, .ref 52, .int (iI e), .int (iI rt), .ref 54, .ref 56, .ref 58, .ref 59, .ref 62, .ref 64, .int (iI th), .ref 66, .int (iI tp), .ref 67, .int (iI wr), .int (iI (s:Nat)), .int (iI (c:Nat)), .int (iI dg), .int (iI pw), .ref 68, .ref 69, .ref 71, .int (iI tn), .ref 73, .int (iI fm), .ref 74, .ref 76]) fX11_259 dX11_isPowerTold_35 h_47 (by decide) (Nat.le_of_ble_eq_true rfl) rfl rfl rfl (fun H1 eH1 => ?_)
    have h_47 : H1 47 = oModel vs vm ve sg e rt th tp wr (s:Nat) (c:Nat) dg pw tn fm := zf_same eH1
    have h_66 := (zf_ne eH1 (by decide)).trans h_66
    have fr := fr.put eH1 (by simp)
    exact go _ h_47 h_66 fr
  rw [es, eR, edn] at up
  have j15 : (zV X (fun r h' n' => r = some (.int (iI (bz (decide (sgnAt f c i < (spw f c 3 (sgnAt f c i) 0).1))))) ∧ n' = n ∧ h' 47 = oModel vs vm ve sg e rt th tp wr ((spw f c 3 (sgnAt f c i) 0).1:Nat) (c:Nat) dg (pw + cond (decide (hr f c i = 45)) (-((spw f c 3 (sgnAt f c i) 0).2 : Int)) (spw f c 3 (sgnAt f c i) 0).2) tn fm ∧ zFr [47] h h') cX11_isPowerTold 4 RX11 (some .boolean) d 0 0 15 [(0, .ref 47), (1, .int (iI (bz dn)))] [] h n 0 0) := by
    rw [es, eR, edn]
    refine v_iload_n dX11_isPowerTold_15 rfl ?_
    refine w_ifb_ne 28 dX11_isPowerTold_16 (by decide) (fun c1 => ?_) (fun c1 => ?_)
    · exact up (by rw [← es]; unfold sgnAt; rw [edn, c1, Bool.true_or, cond_true])
    · skip
      refine v_aload_n dX11_isPowerTold_19 rfl ?_
      refine v_cV (av := []) (st := []) zyX11_here lX11_264 h_47 rfl (p_Mhere (d := 1) h_47 h_66 hc (by omega)) dX11_isPowerTold_20 rfl rfl (Nat.le_of_ble_eq_true rfl) (by omega) (Nat.le_of_ble_eq_true rfl) (Nat.le_of_ble_eq_true rfl) (Or.inl (fun _ _ _ q => ZN q)) (fun r9 K1 n9 q9 => ?_)
      obtain ⟨rfl, q9n, q9h⟩ := q9
      have q9n := q9n.symm
      subst q9n
      have q9h := q9h.symm
      subst q9h
      refine v_bipush (iI 43) dX11_isPowerTold_23 rfl ?_
      refine w_icmp_ne 38 dX11_isPowerTold_25 (by decide) (by omega) (by decide) (fun c2 => ?_) (fun c2 => ?_)
      · exact go _ (by rw [← es]; unfold sgnAt; rw [edn, c1, decide_eq_false c2, Bool.false_or, cond_false]; exact h_47) h_66 fr
      · exact up (by rw [← es]; unfold sgnAt; rw [edn, c1, decide_eq_true c2, Bool.false_or, cond_true])
  rw [es, eR, edn] at j15
  refine v_aload_n dX11_isPowerTold_0 rfl ?_
  refine v_cV (av := []) (st := []) zyX11_here lX11_264 h_47 rfl (p_Mhere (d := 1) h_47 h_66 hc (by omega)) dX11_isPowerTold_1 rfl rfl (Nat.le_of_ble_eq_true rfl) (by omega) (Nat.le_of_ble_eq_true rfl) (Nat.le_of_ble_eq_true rfl) (Or.inl (fun _ _ _ q => ZN q)) (fun r9 K1 n9 q9 => ?_)
  obtain ⟨rfl, q9n, q9h⟩ := q9
  have q9n := q9n.symm
  subst q9n
  have q9h := q9h.symm
  subst q9h
  refine v_bipush (iI 45) dX11_isPowerTold_4 rfl ?_
  refine w_icmp_ne 13 dX11_isPowerTold_6 (by decide) (by omega) (by decide) (fun c1 => ?_) (fun c1 => ?_)
  · have e9 : dn = false := by rw [← edn]; exact decide_eq_false c1
    refine v_iconst (iI 0) dX11_isPowerTold_13 rfl ?_
    refine w_ei (bz false) rfl ?_
    refine v_istore_n (i := 1) (lv' := [(1, .int (iI (bz false))), (0, .ref 47)]) dX11_isPowerTold_14 rfl (by decide) rfl ?_
    refine w_sub (lv2 := [(0, .ref 47), (1, .int (iI (bz false)))]) [1, 0] rfl ?_
    rw [e9] at j15 ⊢
    exact j15
  · have e9 : dn = true := by rw [← edn]; exact decide_eq_true c1
    refine v_iconst (iI 1) dX11_isPowerTold_9 rfl ?_
    refine v_goto 14 dX11_isPowerTold_10 (by decide) ?_
    refine w_ei (bz true) rfl ?_
    refine v_istore_n (i := 1) (lv' := [(1, .int (iI (bz true))), (0, .ref 47)]) dX11_isPowerTold_14 rfl (by decide) rfl ?_
    refine w_sub (lv2 := [(0, .ref 47), (1, .int (iI (bz true)))]) [1, 0] rfl ?_
    rw [e9] at j15 ⊢
    exact j15
theorem zB_n {n : Nat} : zB n [] := fun _ h => by cases h
theorem zB_r {n a : Nat} {t : List Value} (h : a < n) (q : zB n t) : zB n (.ref a :: t) := fun v hv i e => by
  rcases List.mem_cons.mp hv with rfl | hv
  · cases e; exact h
  · exact q v hv i e
theorem zB_i {n : Nat} {x : Int32} {t : List Value} (q : zB n t) : zB n (.int x :: t) := fun v hv i e => by
  rcases List.mem_cons.mp hv with rfl | hv
  · cases e
  · exact q v hv i e
theorem zB_l {n : Nat} {x : Int64} {t : List Value} (q : zB n t) : zB n (.long x :: t) := fun v hv i e => by
  rcases List.mem_cons.mp hv with rfl | hv
  · cases e
  · exact q v hv i e
theorem zB_z {n : Nat} {t : List Value} (q : zB n t) : zB n (.null :: t) := fun v hv i e => by
  rcases List.mem_cons.mp hv with rfl | hv
  · cases e
  · exact q v hv i e
theorem zk_m {h H : zH} {n : Nat} {vs vm ve sg e rt th tp wr at9 sz dg pw tn fm : Int} (hk : zk h n) (hn : 90 ≤ n) (fr : zFr [47, n] h H) (h_47 : H 47 = oModel vs vm ve sg e rt th tp wr at9 sz dg pw tn fm) : zk H n := fun k hkn σ σ' hσ c9 => by
  by_cases e9 : k = 47
  · rw [e9, h_47]
    exact zk_o (by repeat (first | exact zB_n | refine zB_r (by omega) ?_ | refine zB_i ?_ | refine zB_l ?_)) σ σ' hσ c9
  · rw [fr k (by simp; omega)]; exact hk k hkn σ σ' hσ c9
def narF : Nat → Nat := zup (zup (zup (fun _ => 0) 0 78) 1 97) 2 82
set_option maxHeartbeats 8000000 in
set_option maxRecDepth 100000 in
theorem p_isNarTold {d n c : Nat} {vs vm ve sg e rt th tp wr dg pw tn fm : Int} {f : Nat → Nat} {h : zH} (h_47 : h 47 = oModel vs vm ve sg e rt th tp wr 0 (c:Nat) dg pw tn fm) (h_66 : h 66 = aN 80 f) (hf : bb f) (hc : c ≤ 80) (hk : zk h n) (hn : 90 ≤ n) (hN : hr f c 0 = 78) (hd : 1 ≤ d) :
    zM yX11_isNarTold cX11_isNarTold 3 (some .boolean) d 1 3 [.ref 47] h n (fun r h' n' => r = some (.int (iI (bz (nOk f c)))) ∧ n' = n ∧ h' 47 = oModel vs vm ve sg e rt th tp wr (nAt f c:Nat) (c:Nat) dg pw tn fm ∧ zFr [47] h h') := by
  have ne_47_n : 47 ≠ n := by omega
  have ne_66_n : 66 ≠ n := by omega
  have ne_n_47 : n ≠ 47 := by omega
  refine zM_of0 zyX11_isNarTold rfl (Nat.le_of_ble_eq_true rfl) (fun X hX hX0 hzn => ?_)
  have fr : zFr [47, n] h h := zFr.rf
  have fin : ∀ (i : Nat) (b : Bool) (k : Int) (H : zH), i = nAt f c → b = nOk f c → H 47 = oModel vs vm ve sg e rt th tp wr (i:Nat) (c:Nat) dg pw tn fm → zFr [47, n] h H → True ∧ (zV X (fun r h' n' => r = some (.int (iI (bz (nOk f c)))) ∧ n' = n ∧ h' 47 = oModel vs vm ve sg e rt th tp wr (nAt f c:Nat) (c:Nat) dg pw tn fm ∧ zFr [47] h h') cX11_isNarTold 3 RX11 (some .boolean) d 1 3 37 [(0, .ref 47), (1, .ref n), (2, .int (iI k))] [.int (iI (bz b))] H (n+1) 1 3) ∧ (zV X (fun r h' n' => r = some (.int (iI (bz (nOk f c)))) ∧ n' = n ∧ h' 47 = oModel vs vm ve sg e rt th tp wr (nAt f c:Nat) (c:Nat) dg pw tn fm ∧ zFr [47] h h') cX11_isNarTold 3 RX11 (some .boolean) d 1 3 70 [(0, .ref 47), (1, .ref n), (2, .int (iI k))] [.int (iI (bz b))] H (n+1) 1 3) := by
    intro i b k H ei eb h_47 fr
    rw [← ei, ← eb]
    have hk := zk_m hk hn fr h_47
    have h_47 : zu H n zN 47 = oModel vs vm ve sg e rt th tp wr (i:Nat) (c:Nat) dg pw tn fm := by rw [zu_ne _ _ (by omega)]; exact h_47
    have fr : zFr [47] h (zu H n zN) := fun j hj => by
      by_cases e9 : j = n
      · rw [e9, zu_same, hzn n (Nat.le_refl _)]
      · rw [zu_ne _ _ e9]; exact fr j (by simp at hj ⊢; omega)
    refine ⟨?_, ?_, ?_⟩
    · trivial
    · skip
      refine w_sub (lv2 := [(0, .ref 47), (2, .int (iI k))]) [0, 2] rfl ?_
      refine v_drop (by omega) hk ⟨by repeat (first | exact zB_n | refine zB_r (by omega) ?_ | refine zB_i ?_ | refine zB_l ?_ | refine zB_z ?_), by repeat (first | exact zB_n | refine zB_r (by omega) ?_ | refine zB_i ?_ | refine zB_l ?_ | refine zB_z ?_)⟩ ?_
      exact v_iret dX11_isNarTold_37 bz_ret (Nat.le_of_ble_eq_true rfl) (Nat.le_of_ble_eq_true rfl) ⟨rfl, rfl, h_47, fr⟩
    · skip
      refine w_sub (lv2 := [(0, .ref 47), (2, .int (iI k))]) [0, 2] rfl ?_
      refine v_drop (by omega) hk ⟨by repeat (first | exact zB_n | refine zB_r (by omega) ?_ | refine zB_i ?_ | refine zB_l ?_ | refine zB_z ?_), by repeat (first | exact zB_n | refine zB_r (by omega) ?_ | refine zB_i ?_ | refine zB_l ?_ | refine zB_z ?_)⟩ ?_
      exact v_iret dX11_isNarTold_70 bz_ret (Nat.le_of_ble_eq_true rfl) (Nat.le_of_ble_eq_true rfl) ⟨rfl, rfl, h_47, fr⟩
  refine v_iconst (iI 3) dX11_isNarTold_0 rfl ?_
  refine v_newa (ty := .int) (a0 := (3, .inl (fun _ => iI ((0 : Nat) : Int)))) (N := 3) ac_int rfl (fun _ => rfl) (fun _ => rfl) (by decide) rfl (by decide) dX11_isNarTold_1 (Nat.le_of_ble_eq_true rfl) (Nat.le_of_ble_eq_true rfl) hk ⟨by repeat (first | exact zB_n | refine zB_r (by omega) ?_ | refine zB_i ?_ | refine zB_l ?_ | refine zB_z ?_), by repeat (first | exact zB_n | refine zB_r (by omega) ?_ | refine zB_i ?_ | refine zB_l ?_ | refine zB_z ?_)⟩ (fun H1 eH1 => ?_)
  have h_n : H1 n = aN 3 (fun _ => 0) := zf_same eH1
  have h_47 := (zf_ne eH1 ne_47_n).trans h_47
  have h_66 := (zf_ne eH1 ne_66_n).trans h_66
  have fr := fr.put eH1 (by simp)
  refine v_dup dX11_isNarTold_3 rfl ?_
  refine v_iconst (iI 0) dX11_isNarTold_4 rfl ?_
  refine v_bipush (iI 78) dX11_isNarTold_5 rfl ?_
  refine w_nast dX11_isNarTold_7 h_n 0 rfl (by decide) (by decide) 78 rfl (fun H2 eH2 => ?_)
  obtain ⟨F1, eF1⟩ : ∃ zz9, zz9 = zup (fun _ => 0) 0 78 := ⟨_, rfl⟩
  rw [← eF1] at eH2
  have h_n : H2 n = aN 3 F1 := zf_same eH2
  have h_47 := (zf_ne eH2 ne_47_n).trans h_47
  have h_66 := (zf_ne eH2 ne_66_n).trans h_66
  have fr := fr.put eH2 (by simp)
  refine v_dup dX11_isNarTold_8 rfl ?_
  refine v_iconst (iI 1) dX11_isNarTold_9 rfl ?_
  refine v_bipush (iI 97) dX11_isNarTold_10 rfl ?_
  refine w_nast dX11_isNarTold_12 h_n 1 rfl (by decide) (by decide) 97 rfl (fun H3 eH3 => ?_)
  obtain ⟨F2, eF2⟩ : ∃ zz9, zz9 = zup F1 1 97 := ⟨_, rfl⟩
  rw [← eF2] at eH3
  have h_n : H3 n = aN 3 F2 := zf_same eH3
  have h_47 := (zf_ne eH3 ne_47_n).trans h_47
  have h_66 := (zf_ne eH3 ne_66_n).trans h_66
  have fr := fr.put eH3 (by simp)
  refine v_dup dX11_isNarTold_13 rfl ?_
  refine v_iconst (iI 2) dX11_isNarTold_14 rfl ?_
  refine v_bipush (iI 82) dX11_isNarTold_15 rfl ?_
  refine w_nast dX11_isNarTold_17 h_n 2 rfl (by decide) (by decide) 82 rfl (fun H4 eH4 => ?_)
  obtain ⟨F3, eF3⟩ : ∃ zz9, zz9 = zup F2 2 82 := ⟨_, rfl⟩
  rw [← eF3] at eH4
  have h_n : H4 n = aN 3 F3 := zf_same eH4
  have h_47 := (zf_ne eH4 ne_47_n).trans h_47
  have h_66 := (zf_ne eH4 ne_66_n).trans h_66
  have fr := fr.put eH4 (by simp)
  refine v_astore_n (i := 1) (lv' := [(1, .ref n), (0, .ref 47)]) dX11_isNarTold_18 rfl (by decide) rfl ?_
  refine v_iconst (iI 0) dX11_isNarTold_19 rfl ?_
  refine v_istore_n (i := 2) (lv' := [(2, .int (iI 0)), (1, .ref n), (0, .ref 47)]) dX11_isNarTold_20 rfl (by decide) rfl ?_
  refine w_sub (lv2 := [(0, .ref 47), (1, .ref n), (2, .int (iI 0))]) [2, 1, 0] rfl ?_
  have eF : F3 = narF := by rw [eF3, eF2, eF1]; rfl
  rw [eF] at h_n
  refine v_iload_n dX11_isNarTold_21 rfl ?_
  refine v_iconst (iI 3) dX11_isNarTold_22 rfl ?_
  refine w_icmp_ge 54 dX11_isNarTold_23 (by decide) (by decide) (by decide) (fun c1 => ?_) (fun c1 => ?_)
  · exact absurd c1 (by decide)
  · skip
    refine v_aload_n dX11_isNarTold_26 rfl ?_
    refine v_cV (av := []) (st := []) zyX11_here lX11_264 h_47 rfl (p_Mhere (d := 0) (i := 0) h_47 h_66 hc (by omega)) dX11_isNarTold_27 rfl rfl (Nat.le_of_ble_eq_true rfl) (by omega) (Nat.le_of_ble_eq_true rfl) (Nat.le_of_ble_eq_true rfl) (Or.inl (fun _ _ _ q => ZN q)) (fun r9 K1 n9 q9 => ?_)
    obtain ⟨rfl, q9n, q9h⟩ := q9
    have q9n := q9n.symm
    subst q9n
    have q9h := q9h.symm
    subst q9h
    have hh1 := hr_r hf c 1
    have hh2 := hr_r hf c 2
    refine v_aload_n dX11_isNarTold_30 rfl ?_
    refine v_iload_n dX11_isNarTold_31 rfl ?_
    refine w_nald dX11_isNarTold_32 h_n 0 rfl (by decide) (by decide) ?_
    refine w_ei (78:Int) rfl ?_
    refine w_icmp_eq 38 dX11_isNarTold_33 (by decide) (by omega) (by omega) (fun c2 => ?_) (fun c2 => ?_)
    · skip
      refine v_aload_n dX11_isNarTold_38 rfl ?_
      refine v_dup dX11_isNarTold_39 rfl ?_
      refine v_get fX11_259 dX11_isNarTold_40 h_47 (by decide) rfl ?_
      refine v_iconst (iI 1) dX11_isNarTold_43 rfl ?_
      refine w_iadd dX11_isNarTold_44 ?_
      refine w_ei 1 rfl ?_
      refine w_ei (1:Nat) (by omega) ?_
      refine v_put (fs' := [.int (iI vs), .long (jL vm), .int (iI ve), .ref 48, .ref 49, .int (iI sg), .ref 50, .ref 52, .int (iI e), .int (iI rt), .ref 54, .ref 56, .ref 58, .ref 59, .ref 62, .ref 64, .int (iI th), .ref 66, .int (iI tp), .ref 67, .int (iI wr), .int (iI (1:Nat)), .int (iI (c:Nat)), .int (iI dg), .int (iI pw), .ref 68, .ref 69, .ref 71, .int (iI tn), .ref 73, .int (iI fm), .ref 74, .ref 76]) fX11_259 dX11_isNarTold_45 h_47 (by decide) (Nat.le_of_ble_eq_true rfl) rfl rfl rfl (fun H5 eH5 => ?_)
      have h_47 : H5 47 = oModel vs vm ve sg e rt th tp wr (1:Nat) (c:Nat) dg pw tn fm := zf_same eH5
      have h_66 := (zf_ne eH5 (by decide)).trans h_66
      have h_n := (zf_ne eH5 ne_n_47).trans h_n
      have fr := fr.put eH5 (by simp)
      refine w_iinc (lv' := [(2, .int (iI (0 + 1))), (0, .ref 47), (1, .ref n)]) dX11_isNarTold_48 rfl (by decide) rfl ?_
      refine v_goto 21 dX11_isNarTold_51 (by decide) ?_
      refine w_sub (lv2 := [(0, .ref 47), (1, .ref n), (2, .int (iI (0 + 1)))]) [1, 2, 0] rfl ?_
      refine v_iload_n dX11_isNarTold_21 rfl ?_
      refine v_iconst (iI 3) dX11_isNarTold_22 rfl ?_
      refine w_icmp_ge 54 dX11_isNarTold_23 (by decide) (by omega) (by decide) (fun c3 => ?_) (fun c3 => ?_)
      · exact absurd c3 (by decide)
      · skip
        refine v_aload_n dX11_isNarTold_26 rfl ?_
        refine v_cV (av := []) (st := []) zyX11_here lX11_264 h_47 rfl (p_Mhere (d := 0) (i := 1) h_47 h_66 hc (by omega)) dX11_isNarTold_27 rfl rfl (Nat.le_of_ble_eq_true rfl) (by omega) (Nat.le_of_ble_eq_true rfl) (Nat.le_of_ble_eq_true rfl) (Or.inl (fun _ _ _ q => ZN q)) (fun r9 K2 n9 q9 => ?_)
        obtain ⟨rfl, q9n, q9h⟩ := q9
        have q9n := q9n.symm
        subst q9n
        have q9h := q9h.symm
        subst q9h
        refine v_aload_n dX11_isNarTold_30 rfl ?_
        refine v_iload_n dX11_isNarTold_31 rfl ?_
        refine w_nald dX11_isNarTold_32 h_n (0 + 1) (by omega) (by omega) (by decide) ?_
        refine w_ei (97:Int) rfl ?_
        refine w_icmp_eq 38 dX11_isNarTold_33 (by decide) (by omega) (by omega) (fun c4 => ?_) (fun c4 => ?_)
        · skip
          refine v_aload_n dX11_isNarTold_38 rfl ?_
          refine v_dup dX11_isNarTold_39 rfl ?_
          refine v_get fX11_259 dX11_isNarTold_40 h_47 (by decide) rfl ?_
          refine v_iconst (iI 1) dX11_isNarTold_43 rfl ?_
          refine w_iadd dX11_isNarTold_44 ?_
          refine w_ei (2:Nat) (by omega) ?_
          refine v_put (fs' := [.int (iI vs), .long (jL vm), .int (iI ve), .ref 48, .ref 49, .int (iI sg), .ref 50, .ref 52, .int (iI e), .int (iI rt), .ref 54, .ref 56, .ref 58, .ref 59, .ref 62, .ref 64, .int (iI th), .ref 66, .int (iI tp), .ref 67, .int (iI wr), .int (iI (2:Nat)), .int (iI (c:Nat)), .int (iI dg), .int (iI pw), .ref 68, .ref 69, .ref 71, .int (iI tn), .ref 73, .int (iI fm), .ref 74, .ref 76]) fX11_259 dX11_isNarTold_45 h_47 (by decide) (Nat.le_of_ble_eq_true rfl) rfl rfl rfl (fun H6 eH6 => ?_)
          have h_47 : H6 47 = oModel vs vm ve sg e rt th tp wr (2:Nat) (c:Nat) dg pw tn fm := zf_same eH6
          have h_66 := (zf_ne eH6 (by decide)).trans h_66
          have h_n := (zf_ne eH6 ne_n_47).trans h_n
          have fr := fr.put eH6 (by simp)
          refine w_iinc (lv' := [(2, .int (iI ((0 + 1) + 1))), (0, .ref 47), (1, .ref n)]) dX11_isNarTold_48 rfl (by decide) rfl ?_
          refine v_goto 21 dX11_isNarTold_51 (by decide) ?_
          refine w_sub (lv2 := [(0, .ref 47), (1, .ref n), (2, .int (iI ((0 + 1) + 1)))]) [1, 2, 0] rfl ?_
          refine v_iload_n dX11_isNarTold_21 rfl ?_
          refine v_iconst (iI 3) dX11_isNarTold_22 rfl ?_
          refine w_icmp_ge 54 dX11_isNarTold_23 (by decide) (by omega) (by decide) (fun c5 => ?_) (fun c5 => ?_)
          · exact absurd c5 (by decide)
          · skip
            refine v_aload_n dX11_isNarTold_26 rfl ?_
            refine v_cV (av := []) (st := []) zyX11_here lX11_264 h_47 rfl (p_Mhere (d := 0) (i := 2) h_47 h_66 hc (by omega)) dX11_isNarTold_27 rfl rfl (Nat.le_of_ble_eq_true rfl) (by omega) (Nat.le_of_ble_eq_true rfl) (Nat.le_of_ble_eq_true rfl) (Or.inl (fun _ _ _ q => ZN q)) (fun r9 K3 n9 q9 => ?_)
            obtain ⟨rfl, q9n, q9h⟩ := q9
            have q9n := q9n.symm
            subst q9n
            have q9h := q9h.symm
            subst q9h
            refine v_aload_n dX11_isNarTold_30 rfl ?_
            refine v_iload_n dX11_isNarTold_31 rfl ?_
            refine w_nald dX11_isNarTold_32 h_n ((0 + 1) + 1) (by omega) (by omega) (by decide) ?_
            refine w_ei (82:Int) rfl ?_
            refine w_icmp_eq 38 dX11_isNarTold_33 (by decide) (by omega) (by omega) (fun c6 => ?_) (fun c6 => ?_)
            · skip
              refine v_aload_n dX11_isNarTold_38 rfl ?_
              refine v_dup dX11_isNarTold_39 rfl ?_
              refine v_get fX11_259 dX11_isNarTold_40 h_47 (by decide) rfl ?_
              refine v_iconst (iI 1) dX11_isNarTold_43 rfl ?_
              refine w_iadd dX11_isNarTold_44 ?_
              refine w_ei (3:Nat) (by omega) ?_
              refine v_put (fs' := [.int (iI vs), .long (jL vm), .int (iI ve), .ref 48, .ref 49, .int (iI sg), .ref 50, .ref 52, .int (iI e), .int (iI rt), .ref 54, .ref 56, .ref 58, .ref 59, .ref 62, .ref 64, .int (iI th), .ref 66, .int (iI tp), .ref 67, .int (iI wr), .int (iI (3:Nat)), .int (iI (c:Nat)), .int (iI dg), .int (iI pw), .ref 68, .ref 69, .ref 71, .int (iI tn), .ref 73, .int (iI fm), .ref 74, .ref 76]) fX11_259 dX11_isNarTold_45 h_47 (by decide) (Nat.le_of_ble_eq_true rfl) rfl rfl rfl (fun H7 eH7 => ?_)
              have h_47 : H7 47 = oModel vs vm ve sg e rt th tp wr (3:Nat) (c:Nat) dg pw tn fm := zf_same eH7
              have h_66 := (zf_ne eH7 (by decide)).trans h_66
              have h_n := (zf_ne eH7 ne_n_47).trans h_n
              have fr := fr.put eH7 (by simp)
              refine w_iinc (lv' := [(2, .int (iI (((0 + 1) + 1) + 1))), (0, .ref 47), (1, .ref n)]) dX11_isNarTold_48 rfl (by decide) rfl ?_
              refine v_goto 21 dX11_isNarTold_51 (by decide) ?_
              refine w_sub (lv2 := [(0, .ref 47), (1, .ref n), (2, .int (iI (((0 + 1) + 1) + 1)))]) [1, 2, 0] rfl ?_
              refine v_iload_n dX11_isNarTold_21 rfl ?_
              refine v_iconst (iI 3) dX11_isNarTold_22 rfl ?_
              refine w_icmp_ge 54 dX11_isNarTold_23 (by decide) (by omega) (by decide) (fun c7 => ?_) (fun c7 => ?_)
              · skip
                refine v_aload_n dX11_isNarTold_54 rfl ?_
                refine v_get fX11_259 dX11_isNarTold_55 h_47 (by decide) rfl ?_
                refine v_aload_n dX11_isNarTold_58 rfl ?_
                refine v_get fX11_262 dX11_isNarTold_59 h_47 (by decide) rfl ?_
                refine w_icmp_ne 69 dX11_isNarTold_62 (by decide) (by omega) (by omega) (fun c8 => ?_) (fun c8 => ?_)
                · skip
                  refine v_iconst (iI 0) dX11_isNarTold_69 rfl ?_
                  refine w_ei (bz false) rfl ?_
                  exact (fin 3 false _ _ (by unfold nAt; rw [decide_eq_true c4, decide_eq_true c6]; rfl) (by unfold nOk; rw [decide_eq_false (show ¬ c = 3 by omega), Bool.and_false, Bool.and_false]) h_47 fr).2.2
                · skip
                  refine v_iconst (iI 1) dX11_isNarTold_65 rfl ?_
                  refine v_goto 70 dX11_isNarTold_66 (by decide) ?_
                  refine w_ei (bz true) rfl ?_
                  exact (fin 3 true _ _ (by unfold nAt; rw [decide_eq_true c4, decide_eq_true c6]; rfl) (by unfold nOk; rw [decide_eq_true c4, decide_eq_true c6, decide_eq_true (show c = 3 by omega)]; rfl) h_47 fr).2.2
              · exact absurd c7 (by decide)
            · skip
              refine v_iconst (iI 0) dX11_isNarTold_36 rfl ?_
              refine w_ei (bz false) rfl ?_
              exact (fin 2 false _ _ (by unfold nAt; rw [decide_eq_true c4, decide_eq_false c6]; rfl) (by unfold nOk; rw [decide_eq_false c6, Bool.false_and, Bool.and_false]) h_47 fr).2.1
        · skip
          refine v_iconst (iI 0) dX11_isNarTold_36 rfl ?_
          refine w_ei (bz false) rfl ?_
          exact (fin 1 false _ _ (by unfold nAt; rw [decide_eq_false c4]; rfl) (by unfold nOk; rw [decide_eq_false c4]; rfl) h_47 fr).2.1
    · exact absurd hN c2
