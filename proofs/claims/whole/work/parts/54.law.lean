/-! The law: its start. The script stands behind all cells, at 1000. -/
def zD (n n' : Nat) (st : List Value) : Prop := ∀ v ∈ st, ∀ i : Nat, v = .ref i → i < n ∨ n' ≤ i
theorem zD_n {n n' : Nat} : zD n n' [] := fun _ h => by cases h
theorem zD_c {n n' : Nat} {v : Value} {t : List Value} (h : ∀ i : Nat, v = .ref i → i < n ∨ n' ≤ i) (q : zD n n' t) : zD n n' (v :: t) := fun w hw i e => by
  rcases List.mem_cons.mp hw with rfl | hw
  · exact h i e
  · exact q w hw i e
theorem zD_r {n n' a : Nat} {t : List Value} (h : a < n ∨ n' ≤ a) (q : zD n n' t) : zD n n' (.ref a :: t) := zD_c (fun i e => by cases e; exact h) q
theorem zD_i {n n' : Nat} {x : Int32} {t : List Value} (q : zD n n' t) : zD n n' (.int x :: t) := zD_c (fun i e => by cases e) q
theorem zL_pushD {σ : Nat → Nat} {n q : Nat} {lv : List (Nat × Value)} (h : zD n (n + 1) (lv.map (fun q => q.2))) : zL (zup σ n q) lv = zL σ lv := by
  apply List.map_congr_left
  intro p hp
  obtain ⟨i9, v⟩ := p
  cases v with
  | ref i =>
    have hi := h _ (List.mem_map.mpr ⟨_, hp, rfl⟩) i rfl
    show (i9, Value.ref (if i = n then q else σ i)) = (i9, Value.ref (σ i))
    rw [if_neg (show ¬ i = n from hi.elim Nat.ne_of_lt (fun q => Nat.ne_of_gt q))]
  | _ => rfl
theorem zS_pushD {σ : Nat → Nat} {n q : Nat} {st : List Value} (h : zD n (n + 1) st) : zS (zup σ n q) st = zS σ st := by
  apply List.map_congr_left
  intro v hv
  cases v with
  | ref i =>
    have hi := h _ hv i rfl
    show Value.ref (if i = n then q else σ i) = Value.ref (σ i)
    rw [if_neg (show ¬ i = n from hi.elim Nat.ne_of_lt (fun q => Nat.ne_of_gt q))]
  | _ => rfl
theorem zS_eqD {σ σ' : Nat → Nat} {n n' : Nat} {st : List Value} (hσ : zs σ n σ' n') (h : zD n n' st) : zS σ' st = zS σ st := by
  apply List.map_congr_left
  intro v hv
  cases v with
  | ref i =>
    show Value.ref (σ' i) = Value.ref (σ i)
    rw [hσ i (h _ hv i rfl)]
  | _ => rfl
theorem zL_eqD {σ σ' : Nat → Nat} {n n' : Nat} {lv : List (Nat × Value)} (hσ : zs σ n σ' n') (h : zD n n' (lv.map (fun q => q.2))) : zL σ' lv = zL σ lv := by
  apply List.map_congr_left
  intro q hq
  obtain ⟨i9, v⟩ := q
  cases v with
  | ref i =>
    show (i9, Value.ref (σ' i)) = (i9, Value.ref (σ i))
    rw [hσ i (h _ (List.mem_map.mpr ⟨_, hq, rfl⟩) i rfl)]
  | _ => rfl
section
variable {X : zX} {Post Post' : zP} {cc ccy : ByteArray} {nL nLy np : Nat} {own : String} {ret rety : Option FieldType} {d MC MS pc dy mc ms idx : Nat} {lv : List (Nat × Value)} {st av : List Value} {h : zH} {n cells slots : Nat} {y : MethodName}
theorem v_newL {idx ci : Nat} {fs : List Value} (hK9 : zKN own idx ci fs) (hd : decode cc pc = .ok (.new idx, 3)) (hc : cells + 1 ≤ MC) (hs : slots + fs.length ≤ MS) (hk : zk h n) (hB : zD n (n + 1) (lv.map (fun q => q.2)) ∧ zD n (n + 1) st) (k : ∀ h1 : zH, zu h n (.inr (ci, fs)) = h1 → zV X Post cc nL own ret d MC MS (pc + 3) lv (.ref n :: st) h1 (n + 1) (cells + 1) (slots + fs.length)) : zV X Post cc nL own ret d MC MS pc lv st h n cells slots := by
  obtain ⟨p, l, e, R, s, m, args, below, meth, c, Q, D, A, σ0, n0, G⟩ := X
  intro C hn0 σ cy tys ls H locs h0 hO hl
  obtain ⟨hx, hb, hml, ho, hts, hlk, hA, hN, rfl, hG, hend⟩ := id C
  obtain ⟨hz, hK, ht, hP, hD, hS⟩ := id hO
  obtain ⟨C1, T, N, ty0, hci, hin, hty, hl1, hl2, hl3, hdf, hlen, hnr⟩ := hK9
  subst hlen
  refine va_new (ci := ci) (fs := fs) hx hb hts hin ty0 hty ho (hts _ hl1) (hts _ hl2) (hts _ hl3) hK hP hD hS hA hci hdf hc hs hd (fun q H1 hP hD hS => ?_)
  have e9 : (Sum.inr (ci, fs) : va_E) = ze (zup σ n q) 0 (.inr (ci, fs)) := by
    show Sum.inr (ci, fs) = Sum.inr (ci, fs.map (zv (zup σ n q)))
    rw [show fs.map (zv (zup σ n q)) = fs from by
      conv => rhs; rw [← List.map_id fs]
      apply List.map_congr_left
      intro v hv
      cases v with
      | ref i => exact absurd rfl (hnr _ hv i)
      | _ => rfl]
  rw [zw_push (cA := 0) (c := .inr (ci, fs)) hk e9] at hP hD
  have K := k _ rfl C (by omega) (zup σ n q) (zup cy n 0) tys ls H1 locs (zs_push h0 hn0) ⟨zn_push hz, hK, zt_push ht (fun a ha => by cases ha), hP, hD, hS⟩ (by rw [zL_pushD hB.1]; exact hl)
  have e3 : zS (zup σ n q) (.ref n :: st) = .ref q :: zS σ st := by
    show Value.ref (zup σ n q n) :: zS (zup σ n q) st = _
    rw [zS_pushD hB.2]; simp [zup]
  rw [e3] at K
  exact K
theorem v_newaL {atype : ArrayType} {ty : FieldType} {a0 : vp_A} {i : Int32} {N : Nat} (hw : Cond.arrayClass ty ∈ ALL) (hty : newarray.typeOf atype = ty) (ha : ∀ cA : ClassId, vp_cell cA a0 = arrV cA N (fun _ => defaultValue ty)) (hz0 : ∀ σ, za σ a0 = a0) (hi : ¬ i < 0) (hN : i.toNatClampNeg = N) (hby : N * componentBytes ty ≤ 536870912) (hd : decode cc pc = .ok (.newarray atype, 2)) (hc : cells + 1 ≤ MC) (hs : slots + N ≤ MS) (hk : zk h n) (hB : zD n (n + 1) (lv.map (fun q => q.2)) ∧ zD n (n + 1) st)
    (k : ∀ h1 : zH, zu h n (.inl (ty, a0)) = h1 → zV X Post cc nL own ret d MC MS (pc + 2) lv (.ref n :: st) h1 (n + 1) (cells + 1) (slots + N)) : zV X Post cc nL own ret d MC MS pc lv (.int i :: st) h n cells slots := by
  obtain ⟨p, l, e, R, s, m, args, below, meth, c, Q, D, A, σ0, n0, G⟩ := X
  intro C hn0 σ cy tys ls H locs h0 hO hl
  obtain ⟨hx, hb, hml, ho, hts, hlk, hA, hNW, rfl, hG, hend⟩ := id C
  obtain ⟨hz, hK, ht, hP, hD, hS⟩ := id hO
  refine va_newa (rest := zS σ st) hx hb (by rw [hty]; exact hts _ hw) hty hK hP hD hS hA ha hi hN hby hc hs hd (fun q cA H1 hK hP hD hS => ?_)
  have e9 : (Sum.inl (cA, a0) : va_E) = ze (zup σ n q) cA (.inl (ty, a0)) := by
    show Sum.inl (cA, a0) = Sum.inl (cA, za (zup σ n q) a0)
    rw [hz0]
  rw [zw_push (cA := cA) (c := .inl (ty, a0)) hk e9] at hP hD
  have K := k _ rfl C (by omega) (zup σ n q) (zup cy n cA) (tys ++ [(cA, ty)]) ls H1 locs (zs_push h0 hn0) ⟨zn_push hz, hK, zt_push (zt_app ht) (fun a ha => by cases ha; exact ⟨tys.length, by simp⟩), hP, hD, hS⟩ (by rw [zL_pushD hB.1]; exact hl)
  have e3 : zS (zup σ n q) (.ref n :: st) = .ref q :: zS σ st := by
    show Value.ref (zup σ n q n) :: zS (zup σ n q) st = _
    rw [zS_pushD hB.2]; simp [zup]
  rw [e3] at K
  exact K
theorem v_cIL {st0 : List Value} {a : Nat} (hY : zY y ccy nLy none np) (hK : zKI own idx y) (hM : zM y ccy nLy none dy mc ms (.ref a :: av) h n Post') (hd : decode cc pc = .ok (.invokespecial idx, 3)) (hst : st0 = av.reverse ++ .ref a :: st) (hnp : av.length = np) (hW : (st.map fun v => v.category).sum ≤ 8) (hdd : dy + 1 ≤ d) (hc : cells + mc ≤ MC) (hs : slots + ms ≤ MS)
    (hrf : ∀ r h' n', Post' r h' n' → zD n n' (lv.map (fun q => q.2)) ∧ zD n n' st) (k : ∀ r h' n', Post' r h' n' → zV X Post cc nL own ret d MC MS (pc + 3) lv (r.toList ++ st) h' n' (cells + mc) (slots + ms)) : zV X Post cc nL own ret d MC MS pc lv st0 h n cells slots := by
  obtain ⟨p, l, e, R, s, m, args, below, meth, c, Q, D, A, σ0, n0, G⟩ := X
  intro C hn0 σ cy tys ls H locs h0 hO hl
  obtain ⟨hx, hb, hml, ho, hts, hlk, hA, hN, rfl, hG, hend⟩ := id C
  subst hst
  have hcb := callB_of (R := zR d MC MS) (rm := zR dy mc ms) (mc := mc) (ms := ms) np hts (all_in hY.1) rfl rfl rfl (hts _ hY.2.1) (hts _ hK.1) hY.2.2.1 (zroom hdd hY.2.2.2.2)
  refine zcall (va_runI (As := zS σ av) (b := σ a) (rest := zS σ st) ⟨hx, hb, hml, ho, hts⟩ (hM l D σ cy tys H.size hO.1 hO.2.2.1) ⟨hcb, hK.2.2, hts _ hK.2.1⟩ ⟨zPc_blind, zPc_at hO hN⟩ rfl (by simp [zS, hnp]) hl.1 (by simp [zS, List.map_reverse, zv]) (lv_room (by simp only [zS, List.map_map]; rw [show ((fun v => v.category) ∘ zv σ : Value → Nat) = fun v => v.category from funext (zv_cat σ)]; exact hW)) hd ⟨hc, hs⟩) hO hA ?_
  intro r h' n' σ' cy' tys' H1 locs1 hp hn hσ hO'
  have e1 := (hrf r h' n' hp).1
  have e2 := (hrf r h' n' hp).2
  have K := k r h' n' hp C (Nat.le_trans hn0 hn) σ' cy' tys' ls H1 locs1 (zs_trans h0 hσ hn0 hn) hO' (by rw [zL_eqD hσ e1]; exact hl)
  have e3 : zS σ' (r.toList ++ st) = (r.map (zv σ')).toList ++ zS σ st := by
    rw [← zS_eqD hσ e2]; cases r <;> simp [zS]
  rw [e3] at K
  exact K
end
theorem PL0 : PL wd0 (fun _ => 0) := fun i hi => by
  unfold wd0
  rw [if_pos hi]
  exact ⟨by decide, by decide, show 0 < 2 ^ 32 by decide⟩
set_option maxHeartbeats 8000000 in
set_option maxRecDepth 100000 in
theorem law_start {X : zX} {L9 : Nat} {sc : Nat → Int} (hE : zLE X) (hSc : zSc X L9 sc) : (zV X (PLW) cL_law 8 RL (some .boolean) 11 601024 7293034 0 [(0, .ref 1000)] [] (fun _ => zN) 0 0 0) := by
  have hL9 := hSc.l
  have hk : zk (fun _ => zN) 0 := fun k hk => absurd hk (by omega)
  refine v_newL nL_8 dL_law_0 (Nat.le_of_ble_eq_true rfl) (Nat.le_of_ble_eq_true rfl) hk ⟨by repeat (first | exact zD_n | refine zD_r (by omega) ?_ | refine zD_i ?_), by repeat (first | exact zD_n | refine zD_r (by omega) ?_ | refine zD_i ?_)⟩ (fun H1 eH1 => ?_)
  have h_0 : H1 0 = .inr (7, [.null, .null, .null, .null, .null, .null, .null, .null, .null]) := zf_same eH1
  have hk := zk_psh eH1 hk (zkc_o (by repeat (first | exact zB_n | refine zB_r (by omega) ?_ | refine zB_i ?_ | refine zB_l ?_ | refine zB_z ?_)))
  refine v_dup dL_law_3 rfl ?_
  refine v_cIL (av := []) (st := [.ref 0]) zyX8_init lL_101 (p_iHouse (d := 10) h_0 hk (by decide)) dL_law_4 rfl rfl (Nat.le_of_ble_eq_true rfl) (by omega) (Nat.le_of_ble_eq_true rfl) (Nat.le_of_ble_eq_true rfl) (fun _ _ _ q => by obtain ⟨-, rfl, -⟩ := q; exact ⟨by repeat (first | exact zD_n | refine zD_r (by omega) ?_ | refine zD_i ?_), by repeat (first | exact zD_n | refine zD_r (by omega) ?_ | refine zD_i ?_)⟩) (fun r9 G1 n9 q9 => ?_)
  obtain ⟨rfl, q9n, hH, hk⟩ := q9
  have q9n := q9n.symm
  subst q9n
  refine v_astore_n (i := 1) (lv' := [(1, .ref 0), (0, .ref 1000)]) dL_law_7 rfl (by decide) rfl ?_
  refine v_newL nL_102 dL_law_8 (Nat.le_of_ble_eq_true rfl) (Nat.le_of_ble_eq_true rfl) hk ⟨by repeat (first | exact zD_n | refine zD_r (by omega) ?_ | refine zD_i ?_), by repeat (first | exact zD_n | refine zD_r (by omega) ?_ | refine zD_i ?_)⟩ (fun H2 eH2 => ?_)
  have h_47 : H2 47 = .inr (10, [.int (iI 0), .long (jL 0), .int (iI 0), .null, .null, .int (iI 0), .null, .null, .int (iI 0), .int (iI 0), .null, .null, .null, .null, .null, .null, .int (iI 0), .null, .int (iI 0), .null, .int (iI 0), .int (iI 0), .int (iI 0), .int (iI 0), .int (iI 0), .null, .null, .null, .int (iI 0), .null, .int (iI 0), .null, .null]) := zf_same eH2
  have hk := zk_psh eH2 hk (zkc_o (by repeat (first | exact zB_n | refine zB_r (by omega) ?_ | refine zB_i ?_ | refine zB_l ?_ | refine zB_z ?_)))
  have fz : zFr [47] _ _ := zFr.put zFr.rf eH2 (List.mem_singleton.mpr rfl)
  have hH := hH.fr fz (by decide)
  refine v_dup dL_law_11 rfl ?_
  refine v_cIL (av := []) (st := [.ref 47]) zyX11_init lL_104 (p_iModel (d := 10) h_47 hk (by decide)) dL_law_12 rfl rfl (Nat.le_of_ble_eq_true rfl) (by omega) (Nat.le_of_ble_eq_true rfl) (Nat.le_of_ble_eq_true rfl) (fun _ _ _ q => by obtain ⟨-, rfl, -⟩ := q; exact ⟨by repeat (first | exact zD_n | refine zD_r (by omega) ?_ | refine zD_i ?_), by repeat (first | exact zD_n | refine zD_r (by omega) ?_ | refine zD_i ?_)⟩) (fun r9 G2 n9 q9 => ?_)
  obtain ⟨rfl, q9n, hM, hk, fr9⟩ := q9
  have q9n := q9n.symm
  subst q9n
  have hH := hH.fr fr9 (by decide)
  refine v_astore_n (i := 2) (lv' := [(2, .ref 47), (1, .ref 0), (0, .ref 1000)]) dL_law_15 rfl (by decide) rfl ?_
  refine v_iconst (iI 1) dL_law_16 rfl ?_
  refine v_newaL (ty := .long) (a0 := (1, .inr (.inl (fun _ => jL ((0 : Nat) : Int))))) (N := 1) ac_long rfl (fun _ => rfl) (fun _ => rfl) (by decide) rfl (by decide) dL_law_17 (Nat.le_of_ble_eq_true rfl) (Nat.le_of_ble_eq_true rfl) hk ⟨by repeat (first | exact zD_n | refine zD_r (by omega) ?_ | refine zD_i ?_), by repeat (first | exact zD_n | refine zD_r (by omega) ?_ | refine zD_i ?_)⟩ (fun H3 eH3 => ?_)
  have h_90 : H3 90 = aM 1 (fun _ => 0) := zf_same eH3
  have hk := zk_psh eH3 hk zkc_l
  have fz : zFr [90] _ _ := zFr.put zFr.rf eH3 (List.mem_singleton.mpr rfl)
  have hH := hH.fr fz (by decide)
  have hM := hM.fr fz (by decide)
  have h_90 : H3 90 = aL 1 (fun _ => 0) := h_90
  refine v_astore_n (i := 3) (lv' := [(3, .ref 90), (2, .ref 47), (1, .ref 0), (0, .ref 1000)]) dL_law_19 rfl (by decide) rfl ?_
  refine v_iconst (iI 0) dL_law_20 rfl ?_
  refine v_istore (i := 4) (lv' := [(4, .int (iI 0)), (3, .ref 90), (2, .ref 47), (1, .ref 0), (0, .ref 1000)]) dL_law_21 (by decide) rfl ?_
  refine w_sub (lv2 := [(0, .ref 1000), (1, .ref 0), (2, .ref 47), (3, .ref 90), (4, .int (iI 0))]) [4, 3, 2, 1, 0] rfl ?_
  exact lp hE hSc 512 0 H3 _ _ (by omega) (by decide) ⟨wd0, fun _ => 0, fun _ => 0, fun _ => 0, fun _ => false, 0, [], 0, fun _ => 0, hH, hM, h_90, PL0, (fun _ => Nat.zero_lt_succ _), by decide, (fun _ _ => Nat.zero_le _)⟩ (by decide) (by decide)
