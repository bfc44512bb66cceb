/-! The reference: texts -/
def TX (h : zH) (L : List Nat) : Prop := ∃ f, h 67 = aN 400 f ∧ bb f ∧ txt f L
theorem TX.fr {h h' : zH} {L : List Nat} {S : List Nat} (q : TX h L) (f : zFr S h h') (ha : 67 ∉ S) : TX h' L := by
  obtain ⟨g, h1, h2, h3⟩ := q
  exact ⟨g, (f 67 ha).trans h1, h2, h3⟩
/-- figures stand at 68 -/
def FG (h : zH) : Prop := ∃ f, h 68 = aN 200 f
theorem FG.fr {h h' : zH} {S : List Nat} (q : FG h) (f : zFr S h h') (ha : 68 ∉ S) : FG h' := by
  obtain ⟨g, h1⟩ := q
  exact ⟨g, (f 68 ha).trans h1⟩
set_option maxHeartbeats 8000000 in
set_option maxRecDepth 100000 in
theorem p_Mput {d n c : Nat} {vs vm ve sg e rt th tp at9 sz dg pw tn fm : Int} {L : List Nat} {h : zH} (h_47 : h 47 = oModel vs vm ve sg e rt th tp ((L).length:Nat) at9 sz dg pw tn fm) (hT : TX h L) (hL : L.length < 400) (hc : c < 256) :
    zM yX11_put cX11_put 2 none d 0 0 [.ref 47, .int (iI (c:Nat))] h n (fun r h' n' => r = none ∧ n' = n ∧ h' 47 = oModel vs vm ve sg e rt th tp ((L ++ [c]).length:Nat) at9 sz dg pw tn fm ∧ TX h' (L ++ [c]) ∧ zFr [47, 67] h h') := by
  obtain ⟨f, h_67, hb, ht⟩ := hT
  refine zM_of zyX11_put rfl (Nat.le_of_ble_eq_true rfl) (fun X hX => ?_)
  have fr : zFr [47, 67] h h := zFr.rf
  refine v_aload_n dX11_put_0 rfl ?_
  refine v_get fX11_141 dX11_put_1 h_47 (by decide) rfl ?_
  refine v_aload_n dX11_put_4 rfl ?_
  refine v_get fX11_291 dX11_put_5 h_47 (by decide) rfl ?_
  refine v_iload_n dX11_put_8 rfl ?_
  refine w_nast dX11_put_9 h_67 L.length (by omega) (by omega) (by decide) c (by omega) (fun H1 eH1 => ?_)
  obtain ⟨F1, eF1⟩ : ∃ zz9, zz9 = zup f L.length c := ⟨_, rfl⟩
  rw [← eF1] at eH1
  have h_67 : H1 67 = aN 400 F1 := zf_same eH1
  have h_47 := (zf_ne eH1 (by decide)).trans h_47
  have fr := fr.put eH1 (by simp)
  refine v_aload_n dX11_put_10 rfl ?_
  refine v_dup dX11_put_11 rfl ?_
  refine v_get fX11_291 dX11_put_12 h_47 (by decide) rfl ?_
  refine v_iconst (iI 1) dX11_put_15 rfl ?_
  refine w_iadd dX11_put_16 ?_
  refine w_ei ((L ++ [c]).length:Nat) (by rw [List.length_append, List.length_singleton]; omega) ?_
  refine v_put (fs' := [.int (iI vs), .long (jL vm), .int (iI ve), .ref 48, .ref 49, .int (iI sg), .ref 50, .ref 52, .int (iI e), .int (iI rt), .ref 54, .ref 56, .ref 58, .ref 59, .ref 62, .ref 64, .int (iI th), .ref 66, .int (iI tp), .ref 67, .int (iI ((L ++ [c]).length:Nat)), .int (iI at9), .int (iI sz), .int (iI dg), .int (iI pw), .ref 68, .ref 69, .ref 71, .int (iI tn), .ref 73, .int (iI fm), .ref 74, .ref 76]) fX11_291 dX11_put_17 h_47 (by decide) (Nat.le_of_ble_eq_true rfl) rfl rfl rfl (fun H2 eH2 => ?_)
  have h_47 : H2 47 = oModel vs vm ve sg e rt th tp ((L ++ [c]).length:Nat) at9 sz dg pw tn fm := zf_same eH2
  have h_67 := (zf_ne eH2 (by decide)).trans h_67
  have fr := fr.put eH2 (by simp)
  exact v_vret dX11_put_20 trivial (Nat.le_of_ble_eq_true rfl) (Nat.le_of_ble_eq_true rfl) ⟨rfl, rfl, h_47, ⟨F1, h_67, by rw [eF1]; exact bb_up hb hc, by rw [eF1]; exact txt_app c ht⟩, fr⟩
/-- the digits of a whole number of K digits -/
def wK (v K : Nat) : List Nat := if K = 0 then [48] else (dl v K).reverse
theorem wK_len (v K : Nat) : (wK v K).length ≤ K + 1 := by
  unfold wK
  split
  · simp
  · rw [List.length_reverse, dl_len]; omega
/-- v has K digits (0 has none) -/
def dgK (v K : Nat) : Prop := v < 10 ^ K ∧ ∀ i, i < K → 10 ^ i ≤ v
theorem dgK_ex : ∀ m v : Nat, v < 10 ^ m → ∃ K, dgK v K
  | 0, v, h => ⟨0, h, fun i hi => absurd hi (by omega)⟩
  | m + 1, v, h => by
    rcases Nat.lt_or_ge v (10 ^ m) with q | q
    · exact dgK_ex m v q
    · exact ⟨m + 1, h, fun i hi => Nat.le_trans (Nat.pow_le_pow_right (by decide) (by omega)) q⟩
noncomputable def ndc (v : Nat) : Nat := Classical.epsilon (fun K => dgK v K)
theorem ndc_s (v : Nat) : dgK v (ndc v) := Classical.epsilon_spec (p := fun K => dgK v K) (dgK_ex v v (Nat.lt_pow_self (by decide)))
theorem dgK_le {v K m : Nat} (h : dgK v K) (hv : v < 10 ^ m) : K ≤ m := by
  rcases Nat.lt_or_ge m K with q | q
  · have := h.2 m q; omega
  · exact q
theorem dgK_u {v K m : Nat} (h : dgK v K) (h2 : dgK v m) : K = m := Nat.le_antisymm (dgK_le h h2.1) (dgK_le h2 h.1)
theorem ndc_u {v K : Nat} (h : dgK v K) : ndc v = K := dgK_u (ndc_s v) h
noncomputable def wT (v : Nat) : List Nat := wK v (ndc v)
theorem ND.zz {h : zH} {a b v : Nat} (q : ND h a b v) : ∃ u : Nat, h a = oNat b u ∧ u ≤ 420 ∧ (u = 0 ↔ v = 0) := by
  obtain ⟨u, f, h1, h2, h3, h4, h5, h6⟩ := q
  exact ⟨u, h1, h4, ND.z (h := h) (a := a) (b := b) h3 h6 h5⟩
set_option maxHeartbeats 8000000 in
set_option maxRecDepth 100000 in
theorem p_putWholeK {d n v K : Nat} {vs vm ve sg e rt th tp at9 sz dg pw tn fm : Int} {L : List Nat} {h : zH} (h_47 : h 47 = oModel vs vm ve sg e rt th tp ((L).length:Nat) at9 sz dg pw tn fm) (hT : TX h L) (hP : ND h 62 63 v) (hS : NS h 64 65) (hF : FG h) (hK : dgK v K) (hKm : K ≤ 190) (hL : L.length + (wK v K).length < 400) (hd : 2 ≤ d) :
    zM yX11_putWhole cX11_putWhole 3 none d 0 0 [.ref 47] h n (fun r h' n' => r = none ∧ n' = n ∧ h' 47 = oModel vs vm ve sg e rt th tp ((L ++ wK v K).length:Nat) at9 sz dg pw tn fm ∧ TX h' (L ++ wK v K) ∧ NS h' 64 65 ∧ FG h' ∧ zFr [47, 64, 65, 67, 68] h h') := by
  have hlK : K ≤ (wK v K).length := by
    unfold wK
    split
    · omega
    · rw [List.length_reverse, dl_len]; omega
  have hl1 : 1 ≤ (wK v K).length := by
    unfold wK
    split
    · simp
    · rw [List.length_reverse, dl_len]; omega
  obtain ⟨u8, f8, h_64, -⟩ := id hS
  refine zM_of zyX11_putWhole rfl (Nat.le_of_ble_eq_true rfl) (fun X hX => ?_)
  have fr : zFr [47, 64, 65, 67, 68] h h := zFr.rf
  refine v_iconst (iI 0) dX11_putWhole_0 rfl ?_
  refine v_istore_n (i := 1) (lv' := [(1, .int (iI 0)), (0, .ref 47)]) dX11_putWhole_1 rfl (by decide) rfl ?_
  refine v_aload_n dX11_putWhole_2 rfl ?_
  refine v_get fX11_106 dX11_putWhole_3 h_47 (by decide) rfl ?_
  refine v_aload_n dX11_putWhole_6 rfl ?_
  refine v_get fX11_100 dX11_putWhole_7 h_47 (by decide) rfl ?_
  refine w_sub (lv2 := [(0, .ref 47), (1, .int (iI 0))]) [1, 0] rfl ?_
  refine v_cV (av := [.ref 62]) (st := []) zyX9_copy lX11_57 h_64 rfl (p_ncopy (d := 1) hS hP (by decide)) dX11_putWhole_10 rfl rfl (Nat.le_of_ble_eq_true rfl) (by omega) (Nat.le_of_ble_eq_true rfl) (Nat.le_of_ble_eq_true rfl) (Or.inl (fun _ _ _ q => ZN q)) (fun r9 G1 n9 q9 => ?_)
  obtain ⟨rfl, q9n, hSn, fr9⟩ := q9
  have q9n := q9n.symm
  subst q9n
  have h_47 := (fr9 47 (by decide)).trans h_47
  have hT := hT.fr fr9 (by decide)
  have hF := hF.fr fr9 (by decide)
  have fr := fr.tr fr9 (by decide)
  have loop2 : ∀ (k : Nat), k ≤ K → ∀ (H : zH) (M : List Nat) (f : Nat → Nat), M ++ (dl v k).reverse = L ++ wK v K → M.length + k < 400 → H 47 = oModel vs vm ve sg e rt th tp ((M).length:Nat) at9 sz dg pw tn fm → TX H M → NS H 64 65 → H 68 = aN 200 f → (∀ i, i < K → f i = v / 10 ^ i % 10) → zFr [47, 64, 65, 67, 68] h H → (zV X (fun r h' n' => r = none ∧ n' = n ∧ h' 47 = oModel vs vm ve sg e rt th tp ((L ++ wK v K).length:Nat) at9 sz dg pw tn fm ∧ TX h' (L ++ wK v K) ∧ NS h' 64 65 ∧ FG h' ∧ zFr [47, 64, 65, 67, 68] h h') cX11_putWhole 3 RX11 none d 0 0 58 [(0, .ref 47), (1, .int (iI (K:Nat))), (2, .int (iI ((k:Nat) - 1)))] [] H n 0 0) := by
    intro k
    induction k with
    | zero =>
      intro hk H M f eM hM h_47 hT hS h_68 hf fr
      have eM2 : M = L ++ wK v K := by rw [← eM]; exact (List.append_nil M).symm
      refine v_iload_n dX11_putWhole_58 rfl ?_
      refine w_if_lt 81 dX11_putWhole_59 (by decide) (by omega) (fun c1 => ?_) (fun c1 => ?_)
      · skip
        exact v_vret dX11_putWhole_81 trivial (Nat.le_of_ble_eq_true rfl) (Nat.le_of_ble_eq_true rfl) ⟨rfl, rfl, by rw [← eM2]; exact h_47, by rw [← eM2]; exact hT, hS, ⟨f, h_68⟩, fr⟩
      · exact absurd c1 (by omega)
    | succ k ih =>
      intro hk H M f eM hM h_47 hT hS h_68 hf fr
      have efk := hf k (by omega)
      have hmod : v / 10 ^ k % 10 < 10 := Nat.mod_lt _ (by decide)
      refine v_iload_n dX11_putWhole_58 rfl ?_
      refine w_if_lt 81 dX11_putWhole_59 (by decide) (by omega) (fun c1 => ?_) (fun c1 => ?_)
      · exact absurd c1 (by omega)
      · skip
        refine v_aload_n dX11_putWhole_62 rfl ?_
        refine v_bipush (iI 48) dX11_putWhole_63 rfl ?_
        refine v_aload_n dX11_putWhole_65 rfl ?_
        refine v_get fX11_144 dX11_putWhole_66 h_47 (by decide) rfl ?_
        refine v_iload_n dX11_putWhole_69 rfl ?_
        refine w_nald dX11_putWhole_70 h_68 k (by omega) (by omega) (by decide) ?_
        refine w_iadd dX11_putWhole_71 ?_
        refine w_ei (48 + v / 10 ^ k % 10:Nat) (by rw [efk]; omega) ?_
        refine v_cV (av := [.int (iI (48 + v / 10 ^ k % 10:Nat))]) (st := []) zyX11_put lX11_297 h_47 rfl (p_Mput (d := 1) (c := 48 + v / 10 ^ k % 10) h_47 hT (by omega) (by omega)) dX11_putWhole_72 rfl rfl (Nat.le_of_ble_eq_true rfl) (by omega) (Nat.le_of_ble_eq_true rfl) (Nat.le_of_ble_eq_true rfl) (Or.inl (fun _ _ _ q => ZN q)) (fun r9 G2 n9 q9 => ?_)
        obtain ⟨rfl, q9n, h_47, hT, fr8⟩ := q9
        have q9n := q9n.symm
        subst q9n
        have h_68 := (fr8 68 (by decide)).trans h_68
        have hS := hS.fr fr8 (by decide) (by decide)
        have fr := fr.tr fr8 (by decide)
        refine w_iinc (lv' := [(2, .int (iI (((k + 1:Nat) - 1) + (-1)))), (0, .ref 47), (1, .int (iI (K:Nat)))]) dX11_putWhole_75 rfl (by decide) rfl ?_
        refine v_goto 58 dX11_putWhole_78 (by decide) ?_
        refine w_sub (lv2 := [(0, .ref 47), (1, .int (iI (K:Nat))), (2, .int (iI (((k + 1:Nat) - 1) + (-1))))]) [1, 2, 0] rfl ?_
        rw [show ((k + 1 : Nat) : Int) - 1 + -1 = (k : Nat) - 1 from by omega]
        refine ih (by omega) G2 (M ++ [48 + v / 10 ^ k % 10]) f ?_ ?_ h_47 hT hS h_68 hf fr
        · rw [← eM, dl_succ, List.reverse_append, List.append_assoc]; rfl
        · rw [List.length_append, List.length_singleton]; omega
  have loop1 : ∀ (m k : Nat) (H : zH) (f : Nat → Nat), k + m = K → H 47 = oModel vs vm ve sg e rt th tp ((L).length:Nat) at9 sz dg pw tn fm → TX H L → ND H 64 65 (v / 10 ^ k) → H 68 = aN 200 f → (∀ i, i < k → f i = v / 10 ^ i % 10) → zFr [47, 64, 65, 67, 68] h H → (zV X (fun r h' n' => r = none ∧ n' = n ∧ h' 47 = oModel vs vm ve sg e rt th tp ((L ++ wK v K).length:Nat) at9 sz dg pw tn fm ∧ TX h' (L ++ wK v K) ∧ NS h' 64 65 ∧ FG h' ∧ zFr [47, 64, 65, 67, 68] h h') cX11_putWhole 3 RX11 none d 0 0 13 [(0, .ref 47), (1, .int (iI (k:Nat)))] [] H n 0 0) := by
    intro m
    induction m with
    | zero =>
      intro k H f hk h_47 hT hSn h_68 hf fr
      have ek : k = K := by omega
      subst ek
      have hz : v / 10 ^ k = 0 := Nat.div_eq_of_lt hK.1
      obtain ⟨u9, h_64, hu9, hu0⟩ := hSn.zz
      refine v_aload_n dX11_putWhole_13 rfl ?_
      refine v_get fX11_106 dX11_putWhole_14 h_47 (by decide) rfl ?_
      refine v_getN fX11_206 dX11_putWhole_17 h_64 (by decide) rfl ?_
      refine w_if_le 44 dX11_putWhole_20 (by decide) (by omega) (fun c1 => ?_) (fun c1 => ?_)
      · skip
        refine v_iload_n dX11_putWhole_44 rfl ?_
        refine w_if_ne 54 dX11_putWhole_45 (by decide) (by omega) (fun c2 => ?_) (fun c2 => ?_)
        · skip
          refine v_iload_n dX11_putWhole_54 rfl ?_
          refine v_iconst (iI 1) dX11_putWhole_55 rfl ?_
          refine w_isub dX11_putWhole_56 ?_
          refine v_istore_n (i := 2) (lv' := [(2, .int (iI ((k:Nat) - 1))), (0, .ref 47), (1, .int (iI (k:Nat)))]) dX11_putWhole_57 rfl (by decide) rfl ?_
          refine w_sub (lv2 := [(0, .ref 47), (1, .int (iI (k:Nat))), (2, .int (iI ((k:Nat) - 1)))]) [1, 2, 0] rfl ?_
          refine loop2 k (Nat.le_refl _) H L f ?_ (by omega) h_47 hT hSn.ns h_68 hf fr
          unfold wK
          rw [if_neg (by omega)]
        · have ek0 : k = 0 := by omega
          refine v_aload_n dX11_putWhole_48 rfl ?_
          refine v_bipush (iI 48) dX11_putWhole_49 rfl ?_
          refine v_cV (av := [.int (iI 48)]) (st := []) zyX11_put lX11_297 h_47 rfl (p_Mput (d := 1) (c := 48) h_47 hT (by omega) (by decide)) dX11_putWhole_51 rfl rfl (Nat.le_of_ble_eq_true rfl) (by omega) (Nat.le_of_ble_eq_true rfl) (Nat.le_of_ble_eq_true rfl) (Or.inl (fun _ _ _ q => ZN q)) (fun r9 G2 n9 q9 => ?_)
          obtain ⟨rfl, q9n, h_47, hT, fr8⟩ := q9
          have q9n := q9n.symm
          subst q9n
          have h_68 := (fr8 68 (by decide)).trans h_68
          have hS := hSn.ns.fr fr8 (by decide) (by decide)
          have fr := fr.tr fr8 (by decide)
          refine v_iload_n dX11_putWhole_54 rfl ?_
          refine v_iconst (iI 1) dX11_putWhole_55 rfl ?_
          refine w_isub dX11_putWhole_56 ?_
          refine v_istore_n (i := 2) (lv' := [(2, .int (iI ((k:Nat) - 1))), (0, .ref 47), (1, .int (iI (k:Nat)))]) dX11_putWhole_57 rfl (by decide) rfl ?_
          refine w_sub (lv2 := [(0, .ref 47), (1, .int (iI (k:Nat))), (2, .int (iI ((k:Nat) - 1)))]) [1, 2, 0] rfl ?_
          refine loop2 k (Nat.le_refl _) G2 (L ++ [48]) f ?_ (by rw [List.length_append, List.length_singleton]; omega) h_47 hT hS h_68 hf fr
          unfold wK
          rw [if_pos ek0, ek0]
          exact List.append_nil _
      · exact absurd c1 (by omega)
    | succ m ih =>
      intro k H f hk h_47 hT hSn h_68 hf fr
      have hlt := hK.2 k (by omega)
      have hz : v / 10 ^ k ≠ 0 := fun z => by
        have := Nat.div_pos hlt (Nat.pow_pos (n := k) (show 0 < 10 by decide)); omega
      obtain ⟨u9, h_64, hu9, hu0⟩ := hSn.zz
      have hmod : v / 10 ^ k % 10 < 10 := Nat.mod_lt _ (by decide)
      refine v_aload_n dX11_putWhole_13 rfl ?_
      refine v_get fX11_106 dX11_putWhole_14 h_47 (by decide) rfl ?_
      refine v_getN fX11_206 dX11_putWhole_17 h_64 (by decide) rfl ?_
      refine w_if_le 44 dX11_putWhole_20 (by decide) (by omega) (fun c1 => ?_) (fun c1 => ?_)
      · exact absurd c1 (by omega)
      · skip
        refine v_aload_n dX11_putWhole_23 rfl ?_
        refine v_get fX11_144 dX11_putWhole_24 h_47 (by decide) rfl ?_
        refine v_iload_n dX11_putWhole_27 rfl ?_
        refine v_aload_n dX11_putWhole_28 rfl ?_
        refine v_get fX11_106 dX11_putWhole_29 h_47 (by decide) rfl ?_
        refine v_bipush (iI 10) dX11_putWhole_32 rfl ?_
        refine v_cV (av := [.int (iI 10)]) (st := [.int (iI (k:Nat)), .ref 68]) zyX9_divide lX11_294 h_64 rfl (p_ndivide (d := 1) hSn (by decide)) dX11_putWhole_34 rfl rfl (Nat.le_of_ble_eq_true rfl) (by omega) (Nat.le_of_ble_eq_true rfl) (Nat.le_of_ble_eq_true rfl) (Or.inl (fun _ _ _ q => ZN q)) (fun r9 G2 n9 q9 => ?_)
        obtain ⟨rfl, q9n, hSn, fr8⟩ := q9
        have q9n := q9n.symm
        subst q9n
        rw [Nat.div_div_eq_div_mul, ← Nat.pow_succ] at hSn
        have h_47 := (fr8 47 (by decide)).trans h_47
        have h_68 := (fr8 68 (by decide)).trans h_68
        have hT := hT.fr fr8 (by decide)
        have fr := fr.tr fr8 (by decide)
        refine w_nast dX11_putWhole_37 h_68 k (by omega) (by omega) (by decide) (v / 10 ^ k % 10) (by omega) (fun H1 eH1 => ?_)
        obtain ⟨F1, eF1⟩ : ∃ zz9, zz9 = zup f k (v / 10 ^ k % 10) := ⟨_, rfl⟩
        rw [← eF1] at eH1
        have h_68 : H1 68 = aN 200 F1 := zf_same eH1
        have h_47 := (zf_ne eH1 (by decide)).trans h_47
        have fr := fr.put eH1 (by simp)
        have fz : zFr [68] G2 H1 := zFr.put zFr.rf eH1 (by simp)
        have hSn := hSn.fr fz (by decide) (by decide)
        have hT := hT.fr fz (by decide)
        refine w_iinc (lv' := [(1, .int (iI ((k:Nat) + 1))), (0, .ref 47)]) dX11_putWhole_38 rfl (by decide) rfl ?_
        refine v_goto 13 dX11_putWhole_41 (by decide) ?_
        refine w_sub (lv2 := [(0, .ref 47), (1, .int (iI ((k:Nat) + 1)))]) [1, 0] rfl ?_
        rw [show ((k : Nat) : Int) + 1 = ((k + 1 : Nat) : Int) from by omega]
        refine ih (k + 1) H1 F1 (by omega) h_47 hT hSn h_68 ?_ fr
        intro i hi
        rw [eF1]
        by_cases z : i = k
        · rw [z, zup_same]
        · rw [zup_ne _ _ z]; exact hf i (by omega)
  obtain ⟨f0, h_68⟩ := hF
  exact loop1 K 0 G1 f0 (by omega) h_47 hT (by rw [Nat.pow_zero, Nat.div_one]; exact hSn) h_68 (fun i hi => absurd hi (by omega)) fr
set_option maxHeartbeats 8000000 in
set_option maxRecDepth 100000 in
theorem p_putWhole {d n v : Nat} {vs vm ve sg e rt th tp at9 sz dg pw tn fm : Int} {L : List Nat} {h : zH} (h_47 : h 47 = oModel vs vm ve sg e rt th tp ((L).length:Nat) at9 sz dg pw tn fm) (hT : TX h L) (hP : ND h 62 63 v) (hS : NS h 64 65) (hF : FG h) (hK3 : v < 10 ^ 190) (hL : L.length + (wT v).length < 400) (hd : 2 ≤ d) :
    zM yX11_putWhole cX11_putWhole 3 none d 0 0 [.ref 47] h n (fun r h' n' => r = none ∧ n' = n ∧ h' 47 = oModel vs vm ve sg e rt th tp ((L ++ wT v).length:Nat) at9 sz dg pw tn fm ∧ TX h' (L ++ wT v) ∧ NS h' 64 65 ∧ FG h' ∧ zFr [47, 64, 65, 67, 68] h h') := by
  exact p_putWholeK h_47 hT hP hS hF (ndc_s v) (dgK_le (ndc_s v) hK3) hL hd
/-- the digits behind the dot of F / 2^t -/
def fx (t : Nat) : Nat → Nat → List Nat
  | 0, _ => []
  | m + 1, F => if F = 0 then [] else (48 + F * 10 / 2 ^ t) :: fx t m (F * 10 % 2 ^ t)
theorem fx_len (t : Nat) : ∀ m F : Nat, (fx t m F).length ≤ m
  | 0, _ => Nat.le_refl _
  | m + 1, F => by
    unfold fx
    split
    · simp
    · have := fx_len t m (F * 10 % 2 ^ t)
      rw [List.length_cons]; omega
noncomputable def exT (s : Int) (M : Nat) (E : Int) : List Nat := (if s < 0 then [45] else []) ++ (wT (if 0 ≤ E then M * 2 ^ E.toNat else M / 2 ^ (-E).toNat) ++ (if M % 2 ^ (-E).toNat = 0 then [] else [46] ++ fx (-E).toNat (-E).toNat (M % 2 ^ (-E).toNat)))
theorem p10_46 : (2 : Nat) ^ 152 < 10 ^ 46 := by decide
theorem wT_len {v k : Nat} (h : v < 10 ^ k) : (wT v).length ≤ k + 1 := by
  have h1 := wK_len v (ndc v)
  have h2 := dgK_le (ndc_s v) h
  unfold wT
  omega
set_option maxHeartbeats 8000000 in
set_option maxRecDepth 100000 in
theorem p_putExact {d n M : Nat} {s E sg e rt th tp at9 sz dg pw tn fm : Int} {h : zH} (h_47 : h 47 = oModel s (M:Nat) E sg e rt th tp ((([] : List Nat)).length:Nat) at9 sz dg pw tn fm) (hT : TX h []) (hP : NS h 62 63) (hLf : NS h 54 55) (hS : NS h 64 65) (hF : FG h) (hs : s = 1 ∨ s = -1) (hM : 0 < M ∧ M < 4294967296) (hE : -120 ≤ E ∧ E ≤ 120) (hd : 3 ≤ d) :
    zM yX11_putExact cX11_putExact 4 none d 0 0 [.ref 47] h n (fun r h' n' => r = none ∧ n' = n ∧ h' 47 = oModel s (M:Nat) E sg e rt th tp ((exT s M E).length:Nat) at9 sz dg pw tn fm ∧ TX h' (exT s M E) ∧ NS h' 62 63 ∧ NS h' 54 55 ∧ NS h' 64 65 ∧ FG h' ∧ zFr [47, 54, 55, 62, 63, 64, 65, 67, 68] h h') := by
  obtain ⟨t, et⟩ : ∃ t : Nat, (-E).toNat = t := ⟨_, rfl⟩
  have ht : t ≤ 120 := by omega
  obtain ⟨T, eT⟩ : ∃ T, 2 ^ t = T := ⟨_, rfl⟩
  have hT0 : 0 < T := by rw [← eT]; exact p_pos t
  have hT1 : T ≤ 2 ^ 120 := by rw [← eT]; exact Nat.pow_le_pow_right (by decide) ht
  have hbig : 40 < t → M < T := fun z => by
    have : 2 ^ 41 ≤ 2 ^ t := Nat.pow_le_pow_right (by decide) (by omega)
    rw [eT] at this; omega
  have hsm : t ≤ 40 → T ≤ 1099511627776 := fun z => by
    have : 2 ^ t ≤ 2 ^ 40 := Nat.pow_le_pow_right (by decide) z
    rw [eT] at this; exact this
  have hdm := Nat.div_add_mod M T
  have hml := Nat.mod_lt M hT0
  have hdl : M / T ≤ M := Nat.div_le_self _ _
  obtain ⟨F, eF⟩ : ∃ F, M % T = F := ⟨_, rfl⟩
  obtain ⟨q, eq⟩ : ∃ q, M / T = q := ⟨_, rfl⟩
  rw [eq] at hdl
  rw [eq, eF] at hdm
  rw [eF] at hml
  obtain ⟨Tq, eTq⟩ : ∃ Tq, T * q = Tq := ⟨_, rfl⟩
  rw [eTq] at hdm
  have hq0 : 40 < t → q = 0 ∧ F = M := fun z => by
    have := hbig z
    have h1 : M / T = 0 := Nat.div_eq_of_lt (by omega)
    have h2 : M % T = M := Nat.mod_eq_of_lt (by omega)
    omega
  obtain ⟨I, eI⟩ : ∃ I, (if 0 ≤ E then M * 2 ^ E.toNat else M / 2 ^ (-E).toNat) = I := ⟨_, rfl⟩
  have hI : I < 10 ^ 46 := by
    have h9 := p10_46
    rw [← eI]
    by_cases z : 0 ≤ E
    · rw [if_pos z]
      have : 2 ^ E.toNat ≤ 2 ^ 120 := Nat.pow_le_pow_right (by decide) (by omega)
      have h8 : M * 2 ^ E.toNat ≤ M * 2 ^ 120 := Nat.mul_le_mul_left _ this
      omega
    · rw [if_neg z, et, eT, eq]
      omega
  have hI2 := wT_len hI
  have eX : exT s M E = (if s < 0 then [45] else []) ++ (wT I ++ (if F = 0 then [] else [46] ++ fx t t F)) := by
    unfold exT
    rw [eI, et, eT, eF]
  obtain ⟨sL, esL⟩ : ∃ sL : List Nat, (if s < 0 then [45] else []) = sL := ⟨_, rfl⟩
  have hsL : sL.length ≤ 1 := by rw [← esL]; split <;> simp
  rw [esL] at eX
  refine zM_of zyX11_putExact rfl (Nat.le_of_ble_eq_true rfl) (fun X hX => ?_)
  have fr : zFr [47, 54, 55, 62, 63, 64, 65, 67, 68] h h := zFr.rf
  have jlo : ∀ (m F2 : Nat) (H : zH) (M2 : List Nat), M2 ++ fx t m F2 = sL ++ (wT I ++ ([46] ++ fx t t F)) → F ≠ 0 → M2.length + m < 300 → F2 < T → T ∣ F2 * 2 ^ m → H 47 = oModel s (M:Nat) E sg e rt th tp ((M2).length:Nat) at9 sz dg pw tn fm → TX H M2 → ND H 62 63 F2 → NS H 54 55 → NS H 64 65 → FG H → zFr [47, 54, 55, 62, 63, 64, 65, 67, 68] h H → (zV X (fun r h' n' => r = none ∧ n' = n ∧ h' 47 = oModel s (M:Nat) E sg e rt th tp ((exT s M E).length:Nat) at9 sz dg pw tn fm ∧ TX h' (exT s M E) ∧ NS h' 62 63 ∧ NS h' 54 55 ∧ NS h' 64 65 ∧ FG h' ∧ zFr [47, 54, 55, 62, 63, 64, 65, 67, 68] h h') cX11_putExact 4 RX11 none d 0 0 139 [(0, .ref 47), (1, .int (iI (t:Nat)))] [] H n 0 0) := by
    intro m
    induction m with
    | zero =>
      intro F2 H M2 eM hF0 hM2 hFT hdv h_47 hT hP hLf hS hF fr
      have hz : F2 = 0 := by
        rw [Nat.pow_zero, Nat.mul_one] at hdv
        rcases Nat.eq_zero_or_pos F2 with z | z
        · exact z
        · have := Nat.le_of_dvd z hdv; omega
      obtain ⟨u9, h_62, hu9, hu0⟩ := hP.zz
      refine v_aload_n dX11_putExact_139 rfl ?_
      refine v_get fX11_100 dX11_putExact_140 h_47 (by decide) rfl ?_
      refine v_getN fX11_206 dX11_putExact_143 h_62 (by decide) rfl ?_
      have eM2 : M2 = sL ++ (wT I ++ ([46] ++ fx t t F)) := by rw [← eM]; exact (List.append_nil M2).symm
      refine w_if_le 228 dX11_putExact_146 (by decide) (by omega) (fun c1 => ?_) (fun c1 => ?_)
      · skip
        exact v_vret dX11_putExact_228 trivial (Nat.le_of_ble_eq_true rfl) (Nat.le_of_ble_eq_true rfl) ⟨rfl, rfl, by rw [eX, if_neg hF0, ← eM2]; exact h_47, by rw [eX, if_neg hF0, ← eM2]; exact hT, hP.ns, hLf, hS, hF, fr⟩
      · exact absurd c1 (by omega)
    | succ m ih =>
      intro F2 H M2 eM hF0 hM2 hFT hdv h_47 hT hP hLf hS hF fr
      obtain ⟨u9, h_62, hu9, hu0⟩ := hP.zz
      refine v_aload_n dX11_putExact_139 rfl ?_
      refine v_get fX11_100 dX11_putExact_140 h_47 (by decide) rfl ?_
      refine v_getN fX11_206 dX11_putExact_143 h_62 (by decide) rfl ?_
      refine w_if_le 228 dX11_putExact_146 (by decide) (by omega) (fun c1 => ?_) (fun c1 => ?_)
      · have hz : F2 = 0 := by omega
        have eM2 : M2 = sL ++ (wT I ++ ([46] ++ fx t t F)) := by
          rw [← eM]
          unfold fx
          rw [if_pos hz, List.append_nil]
        exact v_vret dX11_putExact_228 trivial (Nat.le_of_ble_eq_true rfl) (Nat.le_of_ble_eq_true rfl) ⟨rfl, rfl, by rw [eX, if_neg hF0, ← eM2]; exact h_47, by rw [eX, if_neg hF0, ← eM2]; exact hT, hP.ns, hLf, hS, hF, fr⟩
      · have hz : F2 ≠ 0 := by omega
        obtain ⟨G, eG⟩ : ∃ G, F2 * 10 = G := ⟨_, rfl⟩
        have hGT : G < T * 10 := by rw [← eG]; omega
        obtain ⟨dq, edq⟩ : ∃ dq, G / T = dq := ⟨_, rfl⟩
        have hdig : dq < 10 := by rw [← edq]; exact Nat.div_lt_of_lt_mul hGT
        have hdmG := Nat.div_add_mod G T
        have hmlG := Nat.mod_lt G hT0
        rw [edq] at hdmG
        obtain ⟨Td, eTd⟩ : ∃ Td, T * dq = Td := ⟨_, rfl⟩
        refine v_aload_n dX11_putExact_149 rfl ?_
        refine v_get fX11_100 dX11_putExact_150 h_47 (by decide) rfl ?_
        refine v_ldc2_w (v := jL 10) kX11_274 dX11_putExact_153 ?_
        refine v_iconst (iI 0) dX11_putExact_156 rfl ?_
        refine v_cV (av := [.long (jL 10), .int (iI 0)]) (st := []) zyX9_times lX11_64 h_62 rfl (p_ntimes (d := 2) (x := 10) (y := 0) hP (by decide) (by decide) (Nat.lt_trans hFT (Nat.lt_of_le_of_lt hT1 (Nat.pow_lt_pow_right (by decide) (by decide))))) dX11_putExact_157 rfl rfl (Nat.le_of_ble_eq_true rfl) (by omega) (Nat.le_of_ble_eq_true rfl) (Nat.le_of_ble_eq_true rfl) (Or.inl (fun _ _ _ q => ZN q)) (fun r9 G1 n9 q9 => ?_)
        obtain ⟨rfl, q9n, -, hP, fr9⟩ := q9
        have q9n := q9n.symm
        subst q9n
        have hP := hP (by decide)
        rw [Nat.add_zero, eG] at hP
        have h_47 := (fr9 47 (by decide)).trans h_47
        have hT := hT.fr fr9 (by decide)
        have hF := hF.fr fr9 (by decide)
        have hLf := hLf.fr fr9 (by decide) (by decide)
        have hS := hS.fr fr9 (by decide) (by decide)
        have fr := fr.tr fr9 (by decide)
        obtain ⟨u9, h_62, hu9, hu0⟩ := hP.zz
        have j189 : (zV X (fun r h' n' => r = none ∧ n' = n ∧ h' 47 = oModel s (M:Nat) E sg e rt th tp ((exT s M E).length:Nat) at9 sz dg pw tn fm ∧ TX h' (exT s M E) ∧ NS h' 62 63 ∧ NS h' 54 55 ∧ NS h' 64 65 ∧ FG h' ∧ zFr [47, 54, 55, 62, 63, 64, 65, 67, 68] h h') cX11_putExact 4 RX11 none d 0 0 189 [(0, .ref 47), (1, .int (iI (t:Nat))), (2, .int (iI (dq:Nat)))] [] G1 n 0 0) := by
          refine v_aload_n dX11_putExact_189 rfl ?_
          refine v_bipush (iI 48) dX11_putExact_190 rfl ?_
          refine v_iload_n dX11_putExact_192 rfl ?_
          refine w_iadd dX11_putExact_193 ?_
          refine w_ei (48 + dq:Nat) (by omega) ?_
          refine v_cV (av := [.int (iI (48 + dq:Nat))]) (st := []) zyX11_put lX11_297 h_47 rfl (p_Mput (d := 2) (c := 48 + dq) h_47 hT (by omega) (by omega)) dX11_putExact_194 rfl rfl (Nat.le_of_ble_eq_true rfl) (by omega) (Nat.le_of_ble_eq_true rfl) (Nat.le_of_ble_eq_true rfl) (Or.inl (fun _ _ _ q => ZN q)) (fun r9 G2 n9 q9 => ?_)
          obtain ⟨rfl, q9n, h_47, hT, fr8⟩ := q9
          have q9n := q9n.symm
          subst q9n
          have hP := hP.fr fr8 (by decide) (by decide)
          have hF := hF.fr fr8 (by decide)
          have hLf := hLf.fr fr8 (by decide) (by decide)
          have hS := hS.fr fr8 (by decide) (by decide)
          have fr := fr.tr fr8 (by decide)
          refine v_aload_n dX11_putExact_197 rfl ?_
          refine v_get fX11_54 dX11_putExact_198 h_47 (by decide) rfl ?_
          refine v_iload_n dX11_putExact_201 rfl ?_
          refine w_i2l dX11_putExact_202 (by omega) ?_
          obtain ⟨_, _, h_54, -⟩ := id hLf
          refine v_cV (av := [.long (jL (dq:Nat))]) (st := []) zyX9_set lX11_39 h_54 rfl (p_nset (d := 2) (x := dq) hLf (by omega) (by omega) (by omega)) dX11_putExact_203 rfl rfl (Nat.le_of_ble_eq_true rfl) (by omega) (Nat.le_of_ble_eq_true rfl) (Nat.le_of_ble_eq_true rfl) (Or.inl (fun _ _ _ q => ZN q)) (fun r9 G3 n9 q9 => ?_)
          obtain ⟨rfl, q9n, hLf, fr7⟩ := q9
          have q9n := q9n.symm
          subst q9n
          have h_47 := (fr7 47 (by decide)).trans h_47
          have hT := hT.fr fr7 (by decide)
          have hP := hP.fr fr7 (by decide) (by decide)
          have hF := hF.fr fr7 (by decide)
          have hS := hS.fr fr7 (by decide) (by decide)
          have fr := fr.tr fr7 (by decide)
          refine v_aload_n dX11_putExact_206 rfl ?_
          refine v_get fX11_54 dX11_putExact_207 h_47 (by decide) rfl ?_
          refine v_iload_n dX11_putExact_210 rfl ?_
          have hle : dq * 2 ^ t ≤ G := by rw [eT, Nat.mul_comm, eTd]; rw [eTd] at hdmG; omega
          obtain ⟨_, _, h_54, -⟩ := id hLf
          refine v_cV (av := [.int (iI (t:Nat))]) (st := []) zyX9_shift lX11_71 h_54 rfl (p_nshift (d := 2) (t := t) hLf (by decide) (by omega) (Nat.lt_of_le_of_lt hle (Nat.lt_trans (show G < 2 ^ 130 by omega) (Nat.pow_lt_pow_right (by decide) (by decide))))) dX11_putExact_211 rfl rfl (Nat.le_of_ble_eq_true rfl) (by omega) (Nat.le_of_ble_eq_true rfl) (Nat.le_of_ble_eq_true rfl) (Or.inl (fun _ _ _ q => ZN q)) (fun r9 G4 n9 q9 => ?_)
          obtain ⟨rfl, q9n, hLf, fr6⟩ := q9
          have q9n := q9n.symm
          subst q9n
          have h_47 := (fr6 47 (by decide)).trans h_47
          have hT := hT.fr fr6 (by decide)
          have hP := hP.fr fr6 (by decide) (by decide)
          have hF := hF.fr fr6 (by decide)
          have hS := hS.fr fr6 (by decide) (by decide)
          have fr := fr.tr fr6 (by decide)
          refine v_aload_n dX11_putExact_214 rfl ?_
          refine v_get fX11_100 dX11_putExact_215 h_47 (by decide) rfl ?_
          refine v_aload_n dX11_putExact_218 rfl ?_
          refine v_get fX11_54 dX11_putExact_219 h_47 (by decide) rfl ?_
          obtain ⟨_, _, h_62, -⟩ := id hP
          refine v_cV (av := [.ref 54]) (st := []) zyX9_less lX11_109 h_62 rfl (p_nless (d := 2) hP hLf (by decide) hle (by decide)) dX11_putExact_222 rfl rfl (Nat.le_of_ble_eq_true rfl) (by omega) (Nat.le_of_ble_eq_true rfl) (Nat.le_of_ble_eq_true rfl) (Or.inl (fun _ _ _ q => ZN q)) (fun r9 G5 n9 q9 => ?_)
          obtain ⟨rfl, q9n, hP, fr5⟩ := q9
          have q9n := q9n.symm
          subst q9n
          have h_47 := (fr5 47 (by decide)).trans h_47
          have hT := hT.fr fr5 (by decide)
          have hLf := hLf.fr fr5 (by decide) (by decide)
          have hF := hF.fr fr5 (by decide)
          have hS := hS.fr fr5 (by decide) (by decide)
          have fr := fr.tr fr5 (by decide)
          rw [show G - dq * 2 ^ t = G % T from by rw [eT, Nat.mul_comm, eTd]; rw [eTd] at hdmG; omega] at hP
          refine v_goto 139 dX11_putExact_225 (by decide) ?_
          refine w_sub (lv2 := [(0, .ref 47), (1, .int (iI (t:Nat)))]) [0, 1] rfl ?_
          refine ih (G % T) G5 (M2 ++ [48 + dq]) ?_ hF0 (by rw [List.length_append, List.length_singleton]; omega) hmlG ?_ h_47 hT hP hLf.ns hS hF fr
          · rw [← eM, List.append_assoc]
            conv => rhs; unfold fx
            rw [if_neg hz, eG, eT, edq]; rfl
          · have h9 : G * 2 ^ m = F2 * 2 ^ (m + 1) * 5 := by rw [← eG, Nat.pow_succ]; grind
            have h8 : T ∣ G * 2 ^ m := by rw [h9]; exact Nat.dvd_trans hdv (Nat.dvd_mul_right _ _)
            have h7 : G * 2 ^ m = T * (dq * 2 ^ m) + G % T * 2 ^ m := by
              conv => lhs; rw [← hdmG]
              rw [Nat.add_mul, Nat.mul_assoc]
            rw [h7] at h8
            exact (Nat.dvd_add_right (Nat.dvd_mul_right _ _)).mp h8
        have bits : ∀ k : Nat, k ≤ 4 → (zV X (fun r h' n' => r = none ∧ n' = n ∧ h' 47 = oModel s (M:Nat) E sg e rt th tp ((exT s M E).length:Nat) at9 sz dg pw tn fm ∧ TX h' (exT s M E) ∧ NS h' 62 63 ∧ NS h' 54 55 ∧ NS h' 64 65 ∧ FG h' ∧ zFr [47, 54, 55, 62, 63, 64, 65, 67, 68] h h') cX11_putExact 4 RX11 none d 0 0 164 [(0, .ref 47), (1, .int (iI (t:Nat))), (2, .int (iI (G / 2 ^ (t + k):Nat))), (3, .int (iI ((k:Nat) - 1)))] [] G1 n 0 0) := by
          intro k
          induction k with
          | zero =>
            intro hk
            refine v_iload_n dX11_putExact_164 rfl ?_
            refine w_if_lt 189 dX11_putExact_165 (by decide) (by omega) (fun c2 => ?_) (fun c2 => ?_)
            · skip
              refine w_sub (lv2 := [(0, .ref 47), (1, .int (iI (t:Nat))), (2, .int (iI (G / 2 ^ (t + 0):Nat)))]) [0, 1, 2] rfl ?_
              rw [Nat.add_zero, eT, edq]
              exact j189
            · exact absurd c2 (by omega)
          | succ k ih2 =>
            intro hk
            have hb1 : G / 2 ^ (t + (k + 1)) ≤ dq := by
              rw [← edq, ← eT]
              exact Nat.div_le_div_left (Nat.pow_le_pow_right (by decide) (by omega)) (p_pos t)
            have hs1 : 2 * (G / 2 ^ (t + (k + 1))) + G / 2 ^ (t + k) % 2 = G / 2 ^ (t + k) := by
              rw [← Nat.add_assoc, Nat.pow_succ, ← Nat.div_div_eq_div_mul]
              omega
            refine v_iload_n dX11_putExact_164 rfl ?_
            refine w_if_lt 189 dX11_putExact_165 (by decide) (by omega) (fun c2 => ?_) (fun c2 => ?_)
            · exact absurd c2 (by omega)
            · skip
              refine v_iconst (iI 2) dX11_putExact_168 rfl ?_
              refine v_iload_n dX11_putExact_169 rfl ?_
              refine w_imul dX11_putExact_170 ?_
              refine v_aload_n dX11_putExact_171 rfl ?_
              refine v_get fX11_100 dX11_putExact_172 h_47 (by decide) rfl ?_
              refine v_iload_n dX11_putExact_175 rfl ?_
              refine v_iload_n dX11_putExact_176 rfl ?_
              refine w_iadd dX11_putExact_177 ?_
              refine w_ei (t + k:Nat) (by omega) ?_
              refine v_cV (av := [.int (iI (t + k:Nat))]) (st := [.int (iI (2 * (G / 2 ^ (t + (k + 1)):Nat)))]) zyX9_bit lX11_199 h_62 rfl (p_nbit (d := 2) (t := t + k) hP (by omega)) dX11_putExact_178 rfl rfl (Nat.le_of_ble_eq_true rfl) (by omega) (Nat.le_of_ble_eq_true rfl) (Nat.le_of_ble_eq_true rfl) (Or.inl (fun _ _ _ q => ZN q)) (fun r9 K1 n9 q9 => ?_)
              obtain ⟨rfl, q9n, q9h⟩ := q9
              have q9n := q9n.symm
              subst q9n
              have q9h := q9h.symm
              subst q9h
              refine w_iadd dX11_putExact_181 ?_
              refine w_ei (G / 2 ^ (t + k):Nat) (by omega) ?_
              refine v_istore_n (i := 2) (lv' := [(2, .int (iI (G / 2 ^ (t + k):Nat))), (0, .ref 47), (1, .int (iI (t:Nat))), (3, .int (iI ((k + 1:Nat) - 1)))]) dX11_putExact_182 rfl (by decide) rfl ?_
              refine w_iinc (lv' := [(3, .int (iI (((k + 1:Nat) - 1) + (-1)))), (2, .int (iI (G / 2 ^ (t + k):Nat))), (0, .ref 47), (1, .int (iI (t:Nat)))]) dX11_putExact_183 rfl (by decide) rfl ?_
              refine v_goto 164 dX11_putExact_186 (by decide) ?_
              refine w_sub (lv2 := [(0, .ref 47), (1, .int (iI (t:Nat))), (2, .int (iI (G / 2 ^ (t + k):Nat))), (3, .int (iI (((k + 1:Nat) - 1) + (-1))))]) [2, 3, 1, 0] rfl ?_
              rw [show ((k + 1 : Nat) : Int) - 1 + -1 = (k : Nat) - 1 from by omega]
              exact ih2 (by omega)
        have b4 := bits 4 (Nat.le_refl _)
        have e40 : G / 2 ^ (t + 4) = 0 := Nat.div_eq_of_lt (by rw [Nat.pow_add, eT]; omega)
        rw [e40] at b4
        refine v_iconst (iI 0) dX11_putExact_160 rfl ?_
        refine v_istore_n (i := 2) (lv' := [(2, .int (iI 0)), (0, .ref 47), (1, .int (iI (t:Nat)))]) dX11_putExact_161 rfl (by decide) rfl ?_
        refine v_iconst (iI 3) dX11_putExact_162 rfl ?_
        refine v_istore_n (i := 3) (lv' := [(3, .int (iI 3)), (2, .int (iI 0)), (0, .ref 47), (1, .int (iI (t:Nat)))]) dX11_putExact_163 rfl (by decide) rfl ?_
        refine w_sub (lv2 := [(0, .ref 47), (1, .int (iI (t:Nat))), (2, .int (iI 0)), (3, .int (iI 3))]) [2, 3, 1, 0] rfl ?_
        exact b4
  have j89 : ∀ (H : zH), H 47 = oModel s (M:Nat) E sg e rt th tp ((sL ++ wT I).length:Nat) at9 sz dg pw tn fm → TX H (sL ++ wT I) → NS H 62 63 → NS H 54 55 → NS H 64 65 → FG H → zFr [47, 54, 55, 62, 63, 64, 65, 67, 68] h H → (zV X (fun r h' n' => r = none ∧ n' = n ∧ h' 47 = oModel s (M:Nat) E sg e rt th tp ((exT s M E).length:Nat) at9 sz dg pw tn fm ∧ TX h' (exT s M E) ∧ NS h' 62 63 ∧ NS h' 54 55 ∧ NS h' 64 65 ∧ FG h' ∧ zFr [47, 54, 55, 62, 63, 64, 65, 67, 68] h h') cX11_putExact 4 RX11 none d 0 0 89 [(0, .ref 47), (1, .int (iI (t:Nat)))] [] H n 0 0) := by
    intro H h_47 hT hP hLf hS hF fr
    have j119 : (zV X (fun r h' n' => r = none ∧ n' = n ∧ h' 47 = oModel s (M:Nat) E sg e rt th tp ((exT s M E).length:Nat) at9 sz dg pw tn fm ∧ TX h' (exT s M E) ∧ NS h' 62 63 ∧ NS h' 54 55 ∧ NS h' 64 65 ∧ FG h' ∧ zFr [47, 54, 55, 62, 63, 64, 65, 67, 68] h h') cX11_putExact 4 RX11 none d 0 0 119 [(0, .ref 47), (1, .int (iI (t:Nat)))] [.long (jL (F:Nat)), .ref 62] H n 0 0) := by
      obtain ⟨_, _, h_62, -⟩ := id hP
      refine v_cV (av := [.long (jL (F:Nat))]) (st := []) zyX9_set lX11_39 h_62 rfl (p_nset (d := 2) (x := F) hP (by omega) (by omega) (by omega)) dX11_putExact_119 rfl rfl (Nat.le_of_ble_eq_true rfl) (by omega) (Nat.le_of_ble_eq_true rfl) (Nat.le_of_ble_eq_true rfl) (Or.inl (fun _ _ _ q => ZN q)) (fun r9 G1 n9 q9 => ?_)
      obtain ⟨rfl, q9n, hP, fr9⟩ := q9
      have q9n := q9n.symm
      subst q9n
      have h_47 := (fr9 47 (by decide)).trans h_47
      have hT := hT.fr fr9 (by decide)
      have hLf := hLf.fr fr9 (by decide) (by decide)
      have hF := hF.fr fr9 (by decide)
      have hS := hS.fr fr9 (by decide) (by decide)
      have fr := fr.tr fr9 (by decide)
      obtain ⟨u9, h_62, hu9, hu0⟩ := hP.zz
      refine v_aload_n dX11_putExact_122 rfl ?_
      refine v_get fX11_100 dX11_putExact_123 h_47 (by decide) rfl ?_
      refine v_getN fX11_206 dX11_putExact_126 h_62 (by decide) rfl ?_
      refine w_if_ne 133 dX11_putExact_129 (by decide) (by omega) (fun c1 => ?_) (fun c1 => ?_)
      · have hF0 : F ≠ 0 := by omega
        refine v_aload_n dX11_putExact_133 rfl ?_
        refine v_bipush (iI 46) dX11_putExact_134 rfl ?_
        refine v_cV (av := [.int (iI 46)]) (st := []) zyX11_put lX11_297 h_47 rfl (p_Mput (d := 2) (c := 46) h_47 hT (by rw [List.length_append]; omega) (by decide)) dX11_putExact_136 rfl rfl (Nat.le_of_ble_eq_true rfl) (by omega) (Nat.le_of_ble_eq_true rfl) (Nat.le_of_ble_eq_true rfl) (Or.inl (fun _ _ _ q => ZN q)) (fun r9 G2 n9 q9 => ?_)
        obtain ⟨rfl, q9n, h_47, hT, fr8⟩ := q9
        have q9n := q9n.symm
        subst q9n
        have hP := hP.fr fr8 (by decide) (by decide)
        have hF := hF.fr fr8 (by decide)
        have hLf := hLf.fr fr8 (by decide) (by decide)
        have hS := hS.fr fr8 (by decide) (by decide)
        have fr := fr.tr fr8 (by decide)
        refine jlo t F G2 (sL ++ wT I ++ [46]) ?_ hF0 ?_ hml ?_ h_47 hT hP hLf hS hF fr
        · rw [List.append_assoc, List.append_assoc]
        · rw [List.length_append, List.length_append, List.length_singleton]; omega
        · rw [eT]; exact Nat.dvd_mul_left _ _
      · have hF0 : F = 0 := by omega
        exact v_vret dX11_putExact_132 trivial (Nat.le_of_ble_eq_true rfl) (Nat.le_of_ble_eq_true rfl) ⟨rfl, rfl, by rw [eX, if_pos hF0, List.append_nil]; exact h_47, by rw [eX, if_pos hF0, List.append_nil]; exact hT, hP.ns, hLf, hS, hF, fr⟩
    refine v_aload_n dX11_putExact_89 rfl ?_
    refine v_get fX11_100 dX11_putExact_90 h_47 (by decide) rfl ?_
    refine v_iload_n dX11_putExact_93 rfl ?_
    refine v_bipush (iI 40) dX11_putExact_94 rfl ?_
    refine w_icmp_le 106 dX11_putExact_96 (by decide) (by omega) (by decide) (fun c1 => ?_) (fun c1 => ?_)
    · have hT9 := hsm (by omega)
      refine v_aload_n dX11_putExact_106 rfl ?_
      refine v_get fX11_7 dX11_putExact_107 h_47 (by decide) rfl ?_
      refine v_aload_n dX11_putExact_110 rfl ?_
      refine v_get fX11_7 dX11_putExact_111 h_47 (by decide) rfl ?_
      refine v_iload_n dX11_putExact_114 rfl ?_
      refine w_lshr dX11_putExact_115 t (2 ^ t) rfl (by omega) (by omega) (by omega) ?_
      refine w_el (q:Nat) (by rw [ipw, eT, ← eq, Int.natCast_ediv]) ?_
      refine v_iload_n dX11_putExact_116 rfl ?_
      refine w_lshl dX11_putExact_117 t (2 ^ t) rfl (by omega) (by omega) ?_
      refine w_el (Tq:Nat) (by rw [ipw, eT, ← eTq, Nat.mul_comm, Int.natCast_mul]) ?_
      refine w_lsub dX11_putExact_118 ?_
      refine w_el (F:Nat) (by omega) ?_
      exact j119
    · have := hq0 (by omega)
      refine v_aload_n dX11_putExact_99 rfl ?_
      refine v_get fX11_7 dX11_putExact_100 h_47 (by decide) rfl ?_
      refine v_goto 119 dX11_putExact_103 (by decide) ?_
      refine w_el (F:Nat) (by omega) ?_
      exact j119
  have j85 : ∀ (H : zH), H 47 = oModel s (M:Nat) E sg e rt th tp ((sL).length:Nat) at9 sz dg pw tn fm → TX H sL → ND H 62 63 I → NS H 54 55 → NS H 64 65 → FG H → zFr [47, 54, 55, 62, 63, 64, 65, 67, 68] h H → (zV X (fun r h' n' => r = none ∧ n' = n ∧ h' 47 = oModel s (M:Nat) E sg e rt th tp ((exT s M E).length:Nat) at9 sz dg pw tn fm ∧ TX h' (exT s M E) ∧ NS h' 62 63 ∧ NS h' 54 55 ∧ NS h' 64 65 ∧ FG h' ∧ zFr [47, 54, 55, 62, 63, 64, 65, 67, 68] h h') cX11_putExact 4 RX11 none d 0 0 85 [(0, .ref 47), (1, .int (iI (t:Nat)))] [] H n 0 0) := by
    intro H h_47 hT hP hLf hS hF fr
    refine v_aload_n dX11_putExact_85 rfl ?_
    refine v_cV (av := []) (st := []) zyX11_putWhole lX11_300 h_47 rfl (p_putWhole (d := 2) h_47 hT hP hS hF (Nat.lt_trans hI (Nat.pow_lt_pow_right (by decide) (by decide))) (by omega) (by decide)) dX11_putExact_86 rfl rfl (Nat.le_of_ble_eq_true rfl) (by omega) (Nat.le_of_ble_eq_true rfl) (Nat.le_of_ble_eq_true rfl) (Or.inl (fun _ _ _ q => ZN q)) (fun r9 G1 n9 q9 => ?_)
    obtain ⟨rfl, q9n, h_47, hT, hS, hF, fr9⟩ := q9
    have q9n := q9n.symm
    subst q9n
    have hP := hP.fr fr9 (by decide) (by decide)
    have hLf := hLf.fr fr9 (by decide) (by decide)
    have fr := fr.tr fr9 (by decide)
    exact j89 G1 h_47 hT hP.ns hLf hS hF fr
  have j36 : ∀ (H : zH), H 47 = oModel s (M:Nat) E sg e rt th tp ((sL).length:Nat) at9 sz dg pw tn fm → TX H sL → NS H 62 63 → NS H 54 55 → NS H 64 65 → FG H → zFr [47, 54, 55, 62, 63, 64, 65, 67, 68] h H → (zV X (fun r h' n' => r = none ∧ n' = n ∧ h' 47 = oModel s (M:Nat) E sg e rt th tp ((exT s M E).length:Nat) at9 sz dg pw tn fm ∧ TX h' (exT s M E) ∧ NS h' 62 63 ∧ NS h' 54 55 ∧ NS h' 64 65 ∧ FG h' ∧ zFr [47, 54, 55, 62, 63, 64, 65, 67, 68] h h') cX11_putExact 4 RX11 none d 0 0 36 [(0, .ref 47)] [.int (iI (t:Nat))] H n 0 0) := by
    intro H h_47 hT hP hLf hS hF fr
    have j57 : (zV X (fun r h' n' => r = none ∧ n' = n ∧ h' 47 = oModel s (M:Nat) E sg e rt th tp ((exT s M E).length:Nat) at9 sz dg pw tn fm ∧ TX h' (exT s M E) ∧ NS h' 62 63 ∧ NS h' 54 55 ∧ NS h' 64 65 ∧ FG h' ∧ zFr [47, 54, 55, 62, 63, 64, 65, 67, 68] h h') cX11_putExact 4 RX11 none d 0 0 57 [(0, .ref 47), (1, .int (iI (t:Nat)))] [.long (jL (q:Nat)), .ref 62] H n 0 0) := by
      obtain ⟨_, _, h_62, -⟩ := id hP
      refine v_cV (av := [.long (jL (q:Nat))]) (st := []) zyX9_set lX11_39 h_62 rfl (p_nset (d := 2) (x := q) hP (by omega) (by omega) (by omega)) dX11_putExact_57 rfl rfl (Nat.le_of_ble_eq_true rfl) (by omega) (Nat.le_of_ble_eq_true rfl) (Nat.le_of_ble_eq_true rfl) (Or.inl (fun _ _ _ q => ZN q)) (fun r9 G1 n9 q9 => ?_)
      obtain ⟨rfl, q9n, hP, fr9⟩ := q9
      have q9n := q9n.symm
      subst q9n
      have h_47 := (fr9 47 (by decide)).trans h_47
      have hT := hT.fr fr9 (by decide)
      have hLf := hLf.fr fr9 (by decide) (by decide)
      have hF := hF.fr fr9 (by decide)
      have hS := hS.fr fr9 (by decide) (by decide)
      have fr := fr.tr fr9 (by decide)
      have go : q = I → (zV X (fun r h' n' => r = none ∧ n' = n ∧ h' 47 = oModel s (M:Nat) E sg e rt th tp ((exT s M E).length:Nat) at9 sz dg pw tn fm ∧ TX h' (exT s M E) ∧ NS h' 62 63 ∧ NS h' 54 55 ∧ NS h' 64 65 ∧ FG h' ∧ zFr [47, 54, 55, 62, 63, 64, 65, 67, 68] h h') cX11_putExact 4 RX11 none d 0 0 85 [(0, .ref 47), (1, .int (iI (t:Nat)))] [] G1 n 0 0) := fun z => j85 G1 h_47 hT (by rw [← z]; exact hP) hLf hS hF fr
      refine v_aload_n dX11_putExact_60 rfl ?_
      refine v_get fX11_17 dX11_putExact_61 h_47 (by decide) rfl ?_
      refine w_if_eq 85 dX11_putExact_64 (by decide) (by omega) (fun c1 => ?_) (fun c1 => ?_)
      · exact absurd c1 (by omega)
      · skip
        refine v_aload_n dX11_putExact_67 rfl ?_
        refine v_get fX11_13 dX11_putExact_68 h_47 (by decide) rfl ?_
        refine w_if_le 85 dX11_putExact_71 (by decide) (by omega) (fun c2 => ?_) (fun c2 => ?_)
        · refine go ?_
          rw [← eI]
          by_cases z : 0 ≤ E
          · have z0 : E = 0 := by omega
            have t0 : t = 0 := by omega
            rw [if_pos z, z0, ← eq, ← eT, t0]
            show M / 2 ^ 0 = M * 2 ^ 0
            rw [Nat.pow_zero, Nat.div_one, Nat.mul_one]
          · rw [if_neg z, et, eT, eq]
        · obtain ⟨g, eg⟩ : ∃ g : Nat, E = g := ⟨E.toNat, by omega⟩
          have t0 : t = 0 := by omega
          have eqM : q = M := by rw [← eq, ← eT, t0, Nat.pow_zero, Nat.div_one]
          have eI2 : q * 2 ^ g = I := by rw [← eI, if_pos (by omega), show E.toNat = g from by omega, eqM]
          obtain ⟨_, _, h_62, -⟩ := id hP
          have hbd : q * 2 ^ g < 2 ^ 12000 := by
            rw [eI2]
            have h9 : (10 : Nat) ^ 46 < 2 ^ 160 := by decide
            exact Nat.lt_trans hI (Nat.lt_trans h9 (Nat.pow_lt_pow_right (by decide) (by decide)))
          refine v_aload_n dX11_putExact_74 rfl ?_
          refine v_get fX11_100 dX11_putExact_75 h_47 (by decide) rfl ?_
          refine v_aload_n dX11_putExact_78 rfl ?_
          refine v_get fX11_13 dX11_putExact_79 h_47 (by decide) rfl ?_
          refine w_ei (g:Nat) eg ?_
          refine v_cV (av := [.int (iI (g:Nat))]) (st := []) zyX9_shift lX11_71 h_62 rfl (p_nshift (d := 2) (t := g) hP (by decide) (by omega) hbd) dX11_putExact_82 rfl rfl (Nat.le_of_ble_eq_true rfl) (by omega) (Nat.le_of_ble_eq_true rfl) (Nat.le_of_ble_eq_true rfl) (Or.inl (fun _ _ _ q => ZN q)) (fun r9 G2 n9 q9 => ?_)
          obtain ⟨rfl, q9n, hP, fr8⟩ := q9
          have q9n := q9n.symm
          subst q9n
          rw [eI2] at hP
          have h_47 := (fr8 47 (by decide)).trans h_47
          have hT := hT.fr fr8 (by decide)
          have hLf := hLf.fr fr8 (by decide) (by decide)
          have hF := hF.fr fr8 (by decide)
          have hS := hS.fr fr8 (by decide) (by decide)
          exact j85 G2 h_47 hT hP hLf hS hF (fr.tr fr8 (by decide))
    refine v_istore_n (i := 1) (lv' := [(1, .int (iI (t:Nat))), (0, .ref 47)]) dX11_putExact_36 rfl (by decide) rfl ?_
    refine w_sub (lv2 := [(0, .ref 47), (1, .int (iI (t:Nat)))]) [1, 0] rfl ?_
    refine v_aload_n dX11_putExact_37 rfl ?_
    refine v_get fX11_100 dX11_putExact_38 h_47 (by decide) rfl ?_
    refine v_iload_n dX11_putExact_41 rfl ?_
    refine v_bipush (iI 40) dX11_putExact_42 rfl ?_
    refine w_icmp_le 51 dX11_putExact_44 (by decide) (by omega) (by decide) (fun c1 => ?_) (fun c1 => ?_)
    · have hT9 := hsm (by omega)
      refine v_aload_n dX11_putExact_51 rfl ?_
      refine v_get fX11_7 dX11_putExact_52 h_47 (by decide) rfl ?_
      refine v_iload_n dX11_putExact_55 rfl ?_
      refine w_lshr dX11_putExact_56 t (2 ^ t) rfl (by omega) (by omega) (by omega) ?_
      refine w_el (q:Nat) (by rw [ipw, eT, ← eq, Int.natCast_ediv]) ?_
      exact j57
    · have := hq0 (by omega)
      refine v_lconst (jL 0) dX11_putExact_47 rfl ?_
      refine v_goto 57 dX11_putExact_48 (by decide) ?_
      refine w_el (q:Nat) (by omega) ?_
      exact j57
  have j13 : ∀ (H : zH), H 47 = oModel s (M:Nat) E sg e rt th tp ((sL).length:Nat) at9 sz dg pw tn fm → TX H sL → NS H 62 63 → NS H 54 55 → NS H 64 65 → FG H → zFr [47, 54, 55, 62, 63, 64, 65, 67, 68] h H → (zV X (fun r h' n' => r = none ∧ n' = n ∧ h' 47 = oModel s (M:Nat) E sg e rt th tp ((exT s M E).length:Nat) at9 sz dg pw tn fm ∧ TX h' (exT s M E) ∧ NS h' 62 63 ∧ NS h' 54 55 ∧ NS h' 64 65 ∧ FG h' ∧ zFr [47, 54, 55, 62, 63, 64, 65, 67, 68] h h') cX11_putExact 4 RX11 none d 0 0 13 [(0, .ref 47)] [] H n 0 0) := by
    intro H h_47 hT hP hLf hS hF fr
    have j := j36 H h_47 hT hP hLf hS hF fr
    refine v_aload_n dX11_putExact_13 rfl ?_
    refine v_get fX11_17 dX11_putExact_14 h_47 (by decide) rfl ?_
    refine w_if_eq 27 dX11_putExact_17 (by decide) (by omega) (fun c1 => ?_) (fun c1 => ?_)
    · exact absurd c1 (by omega)
    · skip
      refine v_aload_n dX11_putExact_20 rfl ?_
      refine v_get fX11_13 dX11_putExact_21 h_47 (by decide) rfl ?_
      refine w_if_lt 31 dX11_putExact_24 (by decide) (by omega) (fun c2 => ?_) (fun c2 => ?_)
      · skip
        refine v_aload_n dX11_putExact_31 rfl ?_
        refine v_get fX11_13 dX11_putExact_32 h_47 (by decide) rfl ?_
        refine w_ineg dX11_putExact_35 ?_
        refine w_ei (t:Nat) (by omega) ?_
        exact j
      · skip
        refine v_iconst (iI 0) dX11_putExact_27 rfl ?_
        refine v_goto 36 dX11_putExact_28 (by decide) ?_
        refine w_ei (t:Nat) (by omega) ?_
        exact j
  refine v_aload_n dX11_putExact_0 rfl ?_
  refine v_get fX11_17 dX11_putExact_1 h_47 (by decide) rfl ?_
  refine w_if_ge 13 dX11_putExact_4 (by decide) (by omega) (fun c1 => ?_) (fun c1 => ?_)
  · have e0 : sL = [] := by rw [← esL, if_neg (by omega)]
    exact j13 h (by rw [e0]; exact h_47) (by rw [e0]; exact hT) hP hLf hS hF fr
  · have e0 : sL = [45] := by rw [← esL, if_pos (by omega)]
    refine v_aload_n dX11_putExact_7 rfl ?_
    refine v_bipush (iI 45) dX11_putExact_8 rfl ?_
    refine v_cV (av := [.int (iI 45)]) (st := []) zyX11_put lX11_297 h_47 rfl (p_Mput (d := 2) (c := 45) h_47 hT (by decide) (by decide)) dX11_putExact_10 rfl rfl (Nat.le_of_ble_eq_true rfl) (by omega) (Nat.le_of_ble_eq_true rfl) (Nat.le_of_ble_eq_true rfl) (Or.inl (fun _ _ _ q => ZN q)) (fun r9 G1 n9 q9 => ?_)
    obtain ⟨rfl, q9n, h_47, hT, fr9⟩ := q9
    have q9n := q9n.symm
    subst q9n
    refine j13 G1 (by rw [e0]; exact h_47) (by rw [e0]; exact hT) (hP.fr fr9 (by decide) (by decide)) (hLf.fr fr9 (by decide) (by decide)) (hS.fr fr9 (by decide) (by decide)) (hF.fr fr9 (by decide)) (fr.tr fr9 (by decide))
