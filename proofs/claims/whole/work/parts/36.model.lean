/-! The reference: the shortest decimal -/
/-- how many digits stay where noughts at the end go; one stays -/
def slf (G : List Nat) : Nat → Nat
  | 0 => 0
  | m + 1 => if 0 < m ∧ G[m]? = some 48 then slf G m else m + 1
def ins (G : List Nat) (m : Nat) : List Nat := if 1 < m then G.take 1 ++ ([46] ++ (G.take m).drop 1) else G.take m
noncomputable def pT (p : Int) : List Nat := (if p < 0 then [45] else []) ++ wT p.natAbs
noncomputable def fwT (dd : Nat) (tn : Int) (c : Nat) : List Nat := ins (wT dd) (slf (wT dd) (wT dd).length) ++ ([101] ++ pT (tn + (wT dd).length - c))
theorem slf_le (G : List Nat) : ∀ m, slf G m ≤ m
  | 0 => Nat.le_refl _
  | m + 1 => by
    unfold slf
    split
    · have := slf_le G m; omega
    · omega
theorem slf_pos (G : List Nat) : ∀ m, 0 < m → 0 < slf G m
  | 0, h => h
  | m + 1, _ => by
    unfold slf
    split
    · rename_i q; exact slf_pos G m q.1
    · omega
theorem ins_len {G : List Nat} {m : Nat} (h : m ≤ G.length) : (ins G m).length = if 1 < m then m + 1 else m := by
  unfold ins
  split
  · rw [List.length_append, List.length_append, List.length_take, List.length_singleton, List.length_drop, List.length_take]; omega
  · rw [List.length_take]; omega
theorem txt_pre {f : Nat → Nat} {A B : List Nat} (h : txt f (A ++ B)) : txt f A := fun i hi => by
  have := h i (by rw [List.length_append]; omega)
  rw [List.getElem?_append_left hi] at this
  exact this
theorem txt_ins {f g : Nat → Nat} {L G : List Nat} {m : Nat} (h : txt f (L ++ G)) (hm : 1 < m) (hm2 : m ≤ G.length) (hg : ∀ x, g x = if x = L.length + 1 then 46 else if L.length + 1 < x ∧ x ≤ L.length + m then f (x - 1) else f x) : txt g (L ++ ins G m) := fun i hi => by
  rw [List.length_append, ins_len hm2, if_pos hm] at hi
  rw [hg]
  rcases Nat.lt_or_ge i L.length with q | q
  · rw [List.getElem?_append_left q, if_neg (by omega), if_neg (by omega)]
    have := h i (by rw [List.length_append]; omega)
    rw [List.getElem?_append_left q] at this
    exact this
  · rw [List.getElem?_append_right q]
    unfold ins
    rw [if_pos hm]
    have hG : ∀ y, y < G.length → G[y]? = some (f (L.length + y)) := fun y hy => by
      have := h (L.length + y) (by rw [List.length_append]; omega)
      rw [List.getElem?_append_right (by omega), show L.length + y - L.length = y from by omega] at this
      exact this
    obtain ⟨y, ey⟩ : ∃ y, i = L.length + y := ⟨i - L.length, by omega⟩
    subst ey
    rw [show L.length + y - L.length = y from by omega]
    rcases Nat.lt_or_ge y 1 with z | z
    · have y0 : y = 0 := by omega
      subst y0
      rw [List.getElem?_append_left (by rw [List.length_take]; omega), List.getElem?_take_of_lt (by omega), if_neg (by omega), if_neg (by omega)]
      exact hG 0 (by omega)
    · rw [List.getElem?_append_right (by rw [List.length_take]; omega), List.length_take, show min 1 G.length = 1 from by omega]
      rcases Nat.lt_or_ge y 2 with z2 | z2
      · have y0 : y = 1 := by omega
        subst y0
        rw [if_pos rfl]; rfl
      · rw [if_neg (by omega), if_pos (by omega), List.getElem?_append_right (by rw [List.length_singleton]; omega), List.length_singleton, List.getElem?_drop, List.getElem?_take_of_lt (by omega), show 1 + (y - 1 - 1) = y - 1 from by omega, hG (y - 1) (by omega), show L.length + (y - 1) = L.length + y - 1 from by omega]
set_option maxHeartbeats 8000000 in
set_option maxRecDepth 100000 in
theorem p_putFew {d n a b dd c : Nat} {vs vm ve sg e rt th tp at9 sz dg pw tn : Int} {L : List Nat} {h : zH} (h_47 : h 47 = oModel vs vm ve sg e rt th tp ((L).length:Nat) at9 sz dg pw tn (c:Nat)) (hT : TX h L) (hDD : ND h a b dd) (hne : a ≠ 62 ∧ a ≠ 63 ∧ b ≠ 62 ∧ b ≠ 63) (nP : NS h 62 63) (nS : NS h 64 65) (hF : FG h) (hdd : dd < 10 ^ 62) (hL : L.length ≤ 10) (htn : -100 ≤ tn ∧ tn ≤ 100) (hc : c ≤ 60) (hd : 3 ≤ d) :
    zM yX11_putFew cX11_putFew 6 none d 0 0 [.ref 47, .ref a] h n (fun r h' n' => r = none ∧ n' = n ∧ h' 47 = oModel vs vm ve sg e rt th tp ((L ++ fwT dd tn c).length:Nat) at9 sz dg pw tn (c:Nat) ∧ TX h' (L ++ fwT dd tn c) ∧ NS h' 62 63 ∧ NS h' 64 65 ∧ FG h' ∧ zFr [47, 62, 63, 64, 65, 67, 68] h h') := by
  obtain ⟨G, eG⟩ : ∃ G, wT dd = G := ⟨_, rfl⟩
  have hGl : G.length ≤ 63 := by rw [← eG]; exact wT_len hdd
  have hG1 : 1 ≤ G.length := by
    rw [← eG]
    unfold wT wK
    split
    · simp
    · rw [List.length_reverse, dl_len]; omega
  obtain ⟨p9, ep9⟩ : ∃ p9 : Int, tn + (G.length : Nat) - (c : Nat) = p9 := ⟨_, rfl⟩
  have hp9 : p9.natAbs < 10 ^ 3 := by omega
  have hpl := wT_len hp9
  have hp190 : p9.natAbs < 10 ^ 190 := Nat.lt_trans hp9 (Nat.pow_lt_pow_right (by decide) (by decide))
  have eW : fwT dd tn c = ins G (slf G G.length) ++ ([101] ++ ((if p9 < 0 then [45] else []) ++ wT p9.natAbs)) := by
    unfold fwT pT
    rw [eG, ep9]
  have hsl := slf_le G G.length
  have hsp := slf_pos G G.length (by omega)
  refine zM_of zyX11_putFew rfl (Nat.le_of_ble_eq_true rfl) (fun X hX => ?_)
  have fr : zFr [47, 62, 63, 64, 65, 67, 68] h h := zFr.rf
  obtain ⟨I9, eI9⟩ : ∃ I9, ins G (slf G G.length) = I9 := ⟨_, rfl⟩
  have hI9 : I9.length ≤ 64 := by
    rw [← eI9, ins_len hsl]
    split <;> omega
  rw [eI9] at eW
  have j148 : ∀ (H : zH) (M2 : List Nat), M2 ++ wT p9.natAbs = L ++ fwT dd tn c → M2.length ≤ 90 → H 47 = oModel vs vm ve sg e rt th tp ((M2).length:Nat) at9 sz dg pw tn (c:Nat) → TX H M2 → NS H 62 63 → NS H 64 65 → FG H → zFr [47, 62, 63, 64, 65, 67, 68] h H → (zV X (fun r h' n' => r = none ∧ n' = n ∧ h' 47 = oModel vs vm ve sg e rt th tp ((L ++ fwT dd tn c).length:Nat) at9 sz dg pw tn (c:Nat) ∧ TX h' (L ++ fwT dd tn c) ∧ NS h' 62 63 ∧ NS h' 64 65 ∧ FG h' ∧ zFr [47, 62, 63, 64, 65, 67, 68] h h') cX11_putFew 6 RX11 none d 0 0 148 [(0, .ref 47), (4, .int (iI p9))] [] H n 0 0) := by
    intro H M2 eM hM2 h_47 hT nP nS hF fr
    refine v_aload_n dX11_putFew_148 rfl ?_
    refine v_get fX11_100 dX11_putFew_149 h_47 (by decide) rfl ?_
    refine v_iload dX11_putFew_152 rfl ?_
    refine v_cS (av := [.int (iI p9)]) (st := [.ref 62]) zyJ9_abs_0f7a4 lX11_240 (p_abs (d := 2) (a := p9) (by omega)) dX11_putFew_154 rfl rfl (Nat.le_of_ble_eq_true rfl) (by omega) (Nat.le_of_ble_eq_true rfl) (Nat.le_of_ble_eq_true rfl) (Or.inl (fun _ _ _ q => ZN q)) (fun r9 K1 n9 q9 => ?_)
    obtain ⟨rfl, q9n, q9h⟩ := q9
    have q9n := q9n.symm
    subst q9n
    have q9h := q9h.symm
    subst q9h
    refine w_i2l dX11_putFew_157 (by omega) ?_
    obtain ⟨_, _, h_62, -⟩ := id nP
    refine v_cV (av := [.long (jL (p9.natAbs:Nat))]) (st := []) zyX9_set lX11_39 h_62 rfl (p_nset (d := 2) (x := p9.natAbs) nP (by omega) (by omega) (by omega)) dX11_putFew_158 rfl rfl (Nat.le_of_ble_eq_true rfl) (by omega) (Nat.le_of_ble_eq_true rfl) (Nat.le_of_ble_eq_true rfl) (Or.inl (fun _ _ _ q => ZN q)) (fun r9 G1 n9 q9 => ?_)
    obtain ⟨rfl, q9n, hP, fr9⟩ := q9
    have q9n := q9n.symm
    subst q9n
    have h_47 := (fr9 47 (by decide)).trans h_47
    have hT := hT.fr fr9 (by decide)
    have hF := hF.fr fr9 (by decide)
    have nS := nS.fr fr9 (by decide) (by decide)
    have fr := fr.tr fr9 (by decide)
    refine v_aload_n dX11_putFew_161 rfl ?_
    refine v_cV (av := []) (st := []) zyX11_putWhole lX11_300 h_47 rfl (p_putWhole (d := 2) h_47 hT hP nS hF hp190 (by omega) (by decide)) dX11_putFew_162 rfl rfl (Nat.le_of_ble_eq_true rfl) (by omega) (Nat.le_of_ble_eq_true rfl) (Nat.le_of_ble_eq_true rfl) (Or.inl (fun _ _ _ q => ZN q)) (fun r9 G2 n9 q9 => ?_)
    obtain ⟨rfl, q9n, h_47, hT, nS, hF, fr8⟩ := q9
    have q9n := q9n.symm
    subst q9n
    have hP := hP.fr fr8 (by decide) (by decide)
    have fr := fr.tr fr8 (by decide)
    exact v_vret dX11_putFew_165 trivial (Nat.le_of_ble_eq_true rfl) (Nat.le_of_ble_eq_true rfl) ⟨rfl, rfl, by rw [← eM]; exact h_47, by rw [← eM]; exact hT, hP.ns, nS, hF, fr⟩
  have j131 : ∀ (H : zH), H 47 = oModel vs vm ve sg e rt th tp ((L ++ I9).length:Nat) at9 sz dg pw tn (c:Nat) → TX H (L ++ I9) → NS H 62 63 → NS H 64 65 → FG H → zFr [47, 62, 63, 64, 65, 67, 68] h H → (zV X (fun r h' n' => r = none ∧ n' = n ∧ h' 47 = oModel vs vm ve sg e rt th tp ((L ++ fwT dd tn c).length:Nat) at9 sz dg pw tn (c:Nat) ∧ TX h' (L ++ fwT dd tn c) ∧ NS h' 62 63 ∧ NS h' 64 65 ∧ FG h' ∧ zFr [47, 62, 63, 64, 65, 67, 68] h h') cX11_putFew 6 RX11 none d 0 0 131 [(0, .ref 47), (4, .int (iI p9))] [] H n 0 0) := by
    intro H h_47 hT nP nS hF fr
    refine v_aload_n dX11_putFew_131 rfl ?_
    refine v_bipush (iI 101) dX11_putFew_132 rfl ?_
    refine v_cV (av := [.int (iI 101)]) (st := []) zyX11_put lX11_297 h_47 rfl (p_Mput (d := 2) (c := 101) h_47 hT (by rw [List.length_append]; omega) (by decide)) dX11_putFew_134 rfl rfl (Nat.le_of_ble_eq_true rfl) (by omega) (Nat.le_of_ble_eq_true rfl) (Nat.le_of_ble_eq_true rfl) (Or.inl (fun _ _ _ q => ZN q)) (fun r9 G1 n9 q9 => ?_)
    obtain ⟨rfl, q9n, h_47, hT, fr9⟩ := q9
    have q9n := q9n.symm
    subst q9n
    have nP := nP.fr fr9 (by decide) (by decide)
    have hF := hF.fr fr9 (by decide)
    have nS := nS.fr fr9 (by decide) (by decide)
    have fr := fr.tr fr9 (by decide)
    refine v_iload dX11_putFew_137 rfl ?_
    refine w_if_ge 148 dX11_putFew_139 (by decide) (by omega) (fun c1 => ?_) (fun c1 => ?_)
    · exact j148 G1 (L ++ I9 ++ [101]) (by rw [eW, if_neg (by omega), List.nil_append, List.append_assoc, List.append_assoc]) (by rw [List.length_append, List.length_append, List.length_singleton]; omega) h_47 hT nP nS hF fr
    · skip
      refine v_aload_n dX11_putFew_142 rfl ?_
      refine v_bipush (iI 45) dX11_putFew_143 rfl ?_
      refine v_cV (av := [.int (iI 45)]) (st := []) zyX11_put lX11_297 h_47 rfl (p_Mput (d := 2) (c := 45) h_47 hT (by rw [List.length_append, List.length_append, List.length_singleton]; omega) (by decide)) dX11_putFew_145 rfl rfl (Nat.le_of_ble_eq_true rfl) (by omega) (Nat.le_of_ble_eq_true rfl) (Nat.le_of_ble_eq_true rfl) (Or.inl (fun _ _ _ q => ZN q)) (fun r9 G2 n9 q9 => ?_)
      obtain ⟨rfl, q9n, h_47, hT, fr8⟩ := q9
      have q9n := q9n.symm
      subst q9n
      have nP := nP.fr fr8 (by decide) (by decide)
      have hF := hF.fr fr8 (by decide)
      have nS := nS.fr fr8 (by decide) (by decide)
      have fr := fr.tr fr8 (by decide)
      exact j148 G2 (L ++ I9 ++ [101] ++ [45]) (by rw [eW, if_pos (by omega), List.append_assoc, List.append_assoc, List.append_assoc]) (by rw [List.length_append, List.length_append, List.length_append, List.length_singleton, List.length_singleton]; omega) h_47 hT nP nS hF fr
  have j63 : ∀ (m : Nat) (f : Nat → Nat) (H : zH), m = slf G G.length → bb f → txt f (L ++ G) → H 47 = oModel vs vm ve sg e rt th tp ((L ++ G).length:Nat) at9 sz dg pw tn (c:Nat) → H 67 = aN 400 f → NS H 62 63 → NS H 64 65 → FG H → zFr [47, 62, 63, 64, 65, 67, 68] h H → (zV X (fun r h' n' => r = none ∧ n' = n ∧ h' 47 = oModel vs vm ve sg e rt th tp ((L ++ fwT dd tn c).length:Nat) at9 sz dg pw tn (c:Nat) ∧ TX h' (L ++ fwT dd tn c) ∧ NS h' 62 63 ∧ NS h' 64 65 ∧ FG h' ∧ zFr [47, 62, 63, 64, 65, 67, 68] h h') cX11_putFew 6 RX11 none d 0 0 63 [(0, .ref 47), (2, .int (iI (L.length:Nat))), (3, .int (iI (m:Nat))), (4, .int (iI p9))] [] H n 0 0) := by
    intro m f H em hbb htx h_47 h_67 nP nS hF fr
    rw [← em] at hsl hsp eI9
    have htl : (G.take m).length = m := by rw [List.length_take]; omega
    refine v_aload_n dX11_putFew_63 rfl ?_
    refine v_iload_n dX11_putFew_64 rfl ?_
    refine v_iload_n dX11_putFew_65 rfl ?_
    refine w_iadd dX11_putFew_66 ?_
    refine w_ei (L.length + m:Nat) (by omega) ?_
    refine v_put (fs' := [.int (iI vs), .long (jL vm), .int (iI ve), .ref 48, .ref 49, .int (iI sg), .ref 50, .ref 52, .int (iI e), .int (iI rt), .ref 54, .ref 56, .ref 58, .ref 59, .ref 62, .ref 64, .int (iI th), .ref 66, .int (iI tp), .ref 67, .int (iI (L.length + m:Nat)), .int (iI at9), .int (iI sz), .int (iI dg), .int (iI pw), .ref 68, .ref 69, .ref 71, .int (iI tn), .ref 73, .int (iI (c:Nat)), .ref 74, .ref 76]) fX11_291 dX11_putFew_67 h_47 (by decide) (Nat.le_of_ble_eq_true rfl) rfl rfl rfl (fun H1 eH1 => ?_)
    have h_47 : H1 47 = oModel vs vm ve sg e rt th tp (L.length + m:Nat) at9 sz dg pw tn (c:Nat) := zf_same eH1
    have h_67 := (zf_ne eH1 (by decide)).trans h_67
    have fr := fr.put eH1 (by simp)
    have fz : zFr [47] H H1 := zFr.put zFr.rf eH1 (by simp)
    have nP := nP.fr fz (by decide) (by decide)
    have nS := nS.fr fz (by decide) (by decide)
    have hF := hF.fr fz (by decide)
    refine v_iload_n dX11_putFew_70 rfl ?_
    refine v_iconst (iI 1) dX11_putFew_71 rfl ?_
    refine w_icmp_le 131 dX11_putFew_72 (by decide) (by omega) (by decide) (fun c1 => ?_) (fun c1 => ?_)
    · have hm1 : ¬ 1 < m := by omega
      have e9 : I9 = G.take m := by rw [← eI9]; unfold ins; rw [if_neg hm1]
      refine w_sub (lv2 := [(0, .ref 47), (4, .int (iI p9))]) [0, 3] rfl ?_
      refine j131 H1 ?_ ⟨f, h_67, hbb, ?_⟩ nP nS hF fr
      · rw [show ((L ++ I9).length : Nat) = L.length + m from by rw [e9, List.length_append, htl]]; exact h_47
      · rw [e9]
        rw [← List.take_append_drop m G, ← List.append_assoc] at htx
        exact txt_pre htx
    · have hm1 : 1 < m := by omega
      have hIl : I9.length = m + 1 := by rw [← eI9, ins_len hsl, if_pos hm1]
      have loop : ∀ (k : Nat) (g : Nat → Nat) (H : zH), k + 1 ≤ m → (∀ x, g x = if L.length + 1 + k < x ∧ x ≤ L.length + m then f (x - 1) else f x) → H 47 = oModel vs vm ve sg e rt th tp (L.length + m:Nat) at9 sz dg pw tn (c:Nat) → H 67 = aN 400 g → NS H 62 63 → NS H 64 65 → FG H → zFr [47, 62, 63, 64, 65, 67, 68] h H → (zV X (fun r h' n' => r = none ∧ n' = n ∧ h' 47 = oModel vs vm ve sg e rt th tp ((L ++ fwT dd tn c).length:Nat) at9 sz dg pw tn (c:Nat) ∧ TX h' (L ++ fwT dd tn c) ∧ NS h' 62 63 ∧ NS h' 64 65 ∧ FG h' ∧ zFr [47, 62, 63, 64, 65, 67, 68] h h') cX11_putFew 6 RX11 none d 0 0 81 [(0, .ref 47), (2, .int (iI (L.length:Nat))), (4, .int (iI p9)), (5, .int (iI (L.length + 1 + k:Nat)))] [] H n 0 0) := by
        intro k
        induction k with
        | zero =>
          intro g H hk hg h_47 h_67 nP nS hF fr
          refine v_iload dX11_putFew_81 rfl ?_
          refine v_iload_n dX11_putFew_83 rfl ?_
          refine v_iconst (iI 1) dX11_putFew_84 rfl ?_
          refine w_iadd dX11_putFew_85 ?_
          refine w_icmp_le 111 dX11_putFew_86 (by decide) (by omega) (by omega) (fun c2 => ?_) (fun c2 => ?_)
          · skip
            refine v_aload_n dX11_putFew_111 rfl ?_
            refine v_get fX11_141 dX11_putFew_112 h_47 (by decide) rfl ?_
            refine v_iload_n dX11_putFew_115 rfl ?_
            refine v_iconst (iI 1) dX11_putFew_116 rfl ?_
            refine w_iadd dX11_putFew_117 ?_
            refine v_bipush (iI 46) dX11_putFew_118 rfl ?_
            refine w_nast dX11_putFew_120 h_67 (L.length + 1) (by omega) (by omega) (by decide) 46 rfl (fun H1 eH1 => ?_)
            obtain ⟨F1, eF1⟩ : ∃ zz9, zz9 = zup g (L.length + 1) 46 := ⟨_, rfl⟩
            rw [← eF1] at eH1
            have h_67 : H1 67 = aN 400 F1 := zf_same eH1
            have h_47 := (zf_ne eH1 (by decide)).trans h_47
            have fr := fr.put eH1 (by simp)
            refine v_aload_n dX11_putFew_121 rfl ?_
            refine v_dup dX11_putFew_122 rfl ?_
            refine v_get fX11_291 dX11_putFew_123 h_47 (by decide) rfl ?_
            refine v_iconst (iI 1) dX11_putFew_126 rfl ?_
            refine w_iadd dX11_putFew_127 ?_
            refine w_ei ((L ++ I9).length:Nat) (by rw [List.length_append, hIl]; omega) ?_
            refine v_put (fs' := [.int (iI vs), .long (jL vm), .int (iI ve), .ref 48, .ref 49, .int (iI sg), .ref 50, .ref 52, .int (iI e), .int (iI rt), .ref 54, .ref 56, .ref 58, .ref 59, .ref 62, .ref 64, .int (iI th), .ref 66, .int (iI tp), .ref 67, .int (iI ((L ++ I9).length:Nat)), .int (iI at9), .int (iI sz), .int (iI dg), .int (iI pw), .ref 68, .ref 69, .ref 71, .int (iI tn), .ref 73, .int (iI (c:Nat)), .ref 74, .ref 76]) fX11_291 dX11_putFew_128 h_47 (by decide) (Nat.le_of_ble_eq_true rfl) rfl rfl rfl (fun H2 eH2 => ?_)
            have h_47 : H2 47 = oModel vs vm ve sg e rt th tp ((L ++ I9).length:Nat) at9 sz dg pw tn (c:Nat) := zf_same eH2
            have h_67 := (zf_ne eH2 (by decide)).trans h_67
            have fr := fr.put eH2 (by simp)
            have fz : zFr [47, 67] H H2 := (zFr.put zFr.rf eH1 (by simp)).put eH2 (by simp)
            have nP := nP.fr fz (by decide) (by decide)
            have nS := nS.fr fz (by decide) (by decide)
            have hF := hF.fr fz (by decide)
            refine w_sub (lv2 := [(0, .ref 47), (4, .int (iI p9))]) [0, 2] rfl ?_
            refine j131 H2 h_47 ⟨F1, h_67, ?_, ?_⟩ nP nS hF fr
            · intro x
              rw [eF1]
              unfold zup
              split
              · decide
              · rw [hg]; split
                · exact hbb _
                · exact hbb _
            · rw [← eI9]
              refine txt_ins htx hm1 hsl (fun x => ?_)
              rw [eF1]
              by_cases z : x = L.length + 1
              · rw [z, zup_same, if_pos rfl]
              · rw [zup_ne _ _ z, if_neg z, hg]
          · exact absurd c2 (by omega)
        | succ k ih =>
          intro g H hk hg h_47 h_67 nP nS hF fr
          refine v_iload dX11_putFew_81 rfl ?_
          refine v_iload_n dX11_putFew_83 rfl ?_
          refine v_iconst (iI 1) dX11_putFew_84 rfl ?_
          refine w_iadd dX11_putFew_85 ?_
          refine w_icmp_le 111 dX11_putFew_86 (by decide) (by omega) (by omega) (fun c2 => ?_) (fun c2 => ?_)
          · exact absurd c2 (by omega)
          · skip
            refine v_aload_n dX11_putFew_89 rfl ?_
            refine v_get fX11_141 dX11_putFew_90 h_47 (by decide) rfl ?_
            refine v_iload dX11_putFew_93 rfl ?_
            refine v_aload_n dX11_putFew_95 rfl ?_
            refine v_get fX11_141 dX11_putFew_96 h_47 (by decide) rfl ?_
            refine v_iload dX11_putFew_99 rfl ?_
            refine v_iconst (iI 1) dX11_putFew_101 rfl ?_
            refine w_isub dX11_putFew_102 ?_
            refine w_nald dX11_putFew_103 h_67 (L.length + 1 + k) (by omega) (by omega) (by decide) ?_
            refine w_nast dX11_putFew_104 h_67 (L.length + 1 + (k + 1)) (by omega) (by omega) (by decide) (g (L.length + 1 + k)) rfl (fun H1 eH1 => ?_)
            obtain ⟨F1, eF1⟩ : ∃ zz9, zz9 = zup g (L.length + 1 + (k + 1)) (g (L.length + 1 + k)) := ⟨_, rfl⟩
            rw [← eF1] at eH1
            have h_67 : H1 67 = aN 400 F1 := zf_same eH1
            have h_47 := (zf_ne eH1 (by decide)).trans h_47
            have fr := fr.put eH1 (by simp)
            have fz : zFr [67] H H1 := zFr.put zFr.rf eH1 (by simp)
            have nP := nP.fr fz (by decide) (by decide)
            have nS := nS.fr fz (by decide) (by decide)
            have hF := hF.fr fz (by decide)
            refine w_iinc (lv' := [(5, .int (iI ((L.length + 1 + (k + 1):Nat) + (-1)))), (0, .ref 47), (2, .int (iI (L.length:Nat))), (4, .int (iI p9))]) dX11_putFew_105 rfl (by decide) rfl ?_
            refine v_goto 81 dX11_putFew_108 (by decide) ?_
            refine w_sub (lv2 := [(0, .ref 47), (2, .int (iI (L.length:Nat))), (4, .int (iI p9)), (5, .int (iI ((L.length + 1 + (k + 1):Nat) + (-1))))]) [1, 2, 3, 0] rfl ?_
            rw [show ((L.length + 1 + (k + 1) : Nat) : Int) + -1 = ((L.length + 1 + k : Nat) : Int) from by omega]
            refine ih F1 H1 (by omega) (fun x => ?_) h_47 h_67 nP nS hF fr
            rw [eF1]
            by_cases z : x = L.length + 1 + (k + 1)
            · rw [z, zup_same, hg, if_neg (by omega), if_pos (by omega), show L.length + 1 + (k + 1) - 1 = L.length + 1 + k from by omega]
            · rw [zup_ne _ _ z, hg]
              by_cases z2 : L.length + 1 + (k + 1) < x ∧ x ≤ L.length + m
              · rw [if_pos z2, if_pos (by omega)]
              · rw [if_neg z2, if_neg (by omega)]
      refine v_aload_n dX11_putFew_75 rfl ?_
      refine v_get fX11_291 dX11_putFew_76 h_47 (by decide) rfl ?_
      refine v_istore (i := 5) (lv' := [(5, .int (iI (L.length + m:Nat))), (0, .ref 47), (2, .int (iI (L.length:Nat))), (3, .int (iI (m:Nat))), (4, .int (iI p9))]) dX11_putFew_79 (by decide) rfl ?_
      refine w_sub (lv2 := [(0, .ref 47), (2, .int (iI (L.length:Nat))), (4, .int (iI p9)), (5, .int (iI (L.length + m:Nat)))]) [1, 2, 4, 0] rfl ?_
      rw [show (L.length + m : Nat) = L.length + 1 + (m - 1) from by omega]
      refine loop (m - 1) f H1 (by omega) (fun x => ?_) h_47 h_67 nP nS hF fr
      rw [if_neg (by omega)]
  have loop1 : ∀ (k : Nat) (f : Nat → Nat) (H : zH), k + 1 ≤ G.length → slf G (k + 1) = slf G G.length → bb f → txt f (L ++ G) → H 47 = oModel vs vm ve sg e rt th tp ((L ++ G).length:Nat) at9 sz dg pw tn (c:Nat) → H 67 = aN 400 f → NS H 62 63 → NS H 64 65 → FG H → zFr [47, 62, 63, 64, 65, 67, 68] h H → (zV X (fun r h' n' => r = none ∧ n' = n ∧ h' 47 = oModel vs vm ve sg e rt th tp ((L ++ fwT dd tn c).length:Nat) at9 sz dg pw tn (c:Nat) ∧ TX h' (L ++ fwT dd tn c) ∧ NS h' 62 63 ∧ NS h' 64 65 ∧ FG h' ∧ zFr [47, 62, 63, 64, 65, 67, 68] h h') cX11_putFew 6 RX11 none d 0 0 37 [(0, .ref 47), (2, .int (iI (L.length:Nat))), (3, .int (iI (k + 1:Nat))), (4, .int (iI p9))] [] H n 0 0) := by
    intro k
    induction k with
    | zero =>
      intro f H hk esl hbb htx h_47 h_67 nP nS hF fr
      refine v_iload_n dX11_putFew_37 rfl ?_
      refine v_iconst (iI 1) dX11_putFew_38 rfl ?_
      refine w_icmp_le 63 dX11_putFew_39 (by decide) (by omega) (by decide) (fun c1 => ?_) (fun c1 => ?_)
      · exact j63 _ f H (by rw [← esl]; unfold slf; rw [if_neg (fun z => Nat.lt_irrefl 0 z.1)]) hbb htx h_47 h_67 nP nS hF fr
      · exact absurd c1 (by omega)
    | succ k ih =>
      intro f H hk esl hbb htx h_47 h_67 nP nS hF fr
      have hv9 := htx (L.length + (k + 1)) (by rw [List.length_append]; omega)
      rw [List.getElem?_append_right (by omega), show L.length + (k + 1) - L.length = k + 1 from by omega] at hv9
      have hb9 := hbb (L.length + (k + 1))
      refine v_iload_n dX11_putFew_37 rfl ?_
      refine v_iconst (iI 1) dX11_putFew_38 rfl ?_
      refine w_icmp_le 63 dX11_putFew_39 (by decide) (by omega) (by decide) (fun c1 => ?_) (fun c1 => ?_)
      · exact absurd c1 (by omega)
      · skip
        refine v_aload_n dX11_putFew_42 rfl ?_
        refine v_get fX11_141 dX11_putFew_43 h_47 (by decide) rfl ?_
        refine v_iload_n dX11_putFew_46 rfl ?_
        refine v_iload_n dX11_putFew_47 rfl ?_
        refine w_iadd dX11_putFew_48 ?_
        refine v_iconst (iI 1) dX11_putFew_49 rfl ?_
        refine w_isub dX11_putFew_50 ?_
        refine w_nald dX11_putFew_51 h_67 (L.length + (k + 1)) (by omega) (by omega) (by decide) ?_
        refine v_bipush (iI 48) dX11_putFew_52 rfl ?_
        refine w_icmp_ne 63 dX11_putFew_54 (by decide) (by omega) (by decide) (fun c2 => ?_) (fun c2 => ?_)
        · exact j63 _ f H (by rw [← esl]; unfold slf; rw [if_neg (fun z => by rw [hv9] at z; have := Option.some.inj z.2; omega)]) hbb htx h_47 h_67 nP nS hF fr
        · skip
          refine w_iinc (lv' := [(3, .int (iI ((k + 1 + 1:Nat) + (-1)))), (0, .ref 47), (2, .int (iI (L.length:Nat))), (4, .int (iI p9))]) dX11_putFew_57 rfl (by decide) rfl ?_
          refine v_goto 37 dX11_putFew_60 (by decide) ?_
          refine w_sub (lv2 := [(0, .ref 47), (2, .int (iI (L.length:Nat))), (3, .int (iI ((k + 1 + 1:Nat) + (-1)))), (4, .int (iI p9))]) [1, 2, 0, 3] rfl ?_
          rw [show ((k + 1 + 1 : Nat) : Int) + -1 = ((k + 1 : Nat) : Int) from by omega]
          refine ih f H (by omega) ?_ hbb htx h_47 h_67 nP nS hF fr
          rw [← esl]
          conv => rhs; unfold slf
          rw [if_pos ⟨by omega, by rw [hv9]; congr 1; omega⟩]
  refine v_aload_n dX11_putFew_0 rfl ?_
  refine v_get fX11_100 dX11_putFew_1 h_47 (by decide) rfl ?_
  refine v_aload_n dX11_putFew_4 rfl ?_
  obtain ⟨_, _, h_62, -⟩ := id nP
  refine v_cV (av := [.ref a]) (st := []) zyX9_copy lX11_57 h_62 rfl (p_ncopy (d := 2) nP hDD hne) dX11_putFew_5 rfl rfl (Nat.le_of_ble_eq_true rfl) (by omega) (Nat.le_of_ble_eq_true rfl) (Nat.le_of_ble_eq_true rfl) (Or.inl (fun _ _ _ q => ZN q)) (fun r9 G1 n9 q9 => ?_)
  obtain ⟨rfl, q9n, hP, fr9⟩ := q9
  have q9n := q9n.symm
  subst q9n
  have h_47 := (fr9 47 (by decide)).trans h_47
  have hT := hT.fr fr9 (by decide)
  have hF := hF.fr fr9 (by decide)
  have nS := nS.fr fr9 (by decide) (by decide)
  have fr := fr.tr fr9 (by decide)
  refine v_aload_n dX11_putFew_8 rfl ?_
  refine v_get fX11_291 dX11_putFew_9 h_47 (by decide) rfl ?_
  refine v_istore_n (i := 2) (lv' := [(2, .int (iI ((L).length:Nat))), (0, .ref 47), (1, .ref a)]) dX11_putFew_12 rfl (by decide) rfl ?_
  refine v_aload_n dX11_putFew_13 rfl ?_
  refine v_cV (av := []) (st := []) zyX11_putWhole lX11_300 h_47 rfl (p_putWhole (d := 2) h_47 hT hP nS hF (Nat.lt_trans hdd (Nat.pow_lt_pow_right (by decide) (by decide))) (by rw [eG]; omega) (by decide)) dX11_putFew_14 rfl rfl (Nat.le_of_ble_eq_true rfl) (by omega) (Nat.le_of_ble_eq_true rfl) (Nat.le_of_ble_eq_true rfl) (Or.inl (fun _ _ _ q => ZN q)) (fun r9 G2 n9 q9 => ?_)
  obtain ⟨rfl, q9n, h_47, hT, nS, hF, fr8⟩ := q9
  have q9n := q9n.symm
  subst q9n
  have hP := hP.fr fr8 (by decide) (by decide)
  have fr := fr.tr fr8 (by decide)
  rw [eG] at h_47 hT
  obtain ⟨f, h_67, hbb, htx⟩ := id hT
  refine v_aload_n dX11_putFew_17 rfl ?_
  refine v_get fX11_291 dX11_putFew_18 h_47 (by decide) rfl ?_
  refine v_iload_n dX11_putFew_21 rfl ?_
  refine w_isub dX11_putFew_22 ?_
  refine w_ei (G.length:Nat) (by rw [List.length_append]; omega) ?_
  refine v_istore_n (i := 3) (lv' := [(3, .int (iI (G.length:Nat))), (2, .int (iI ((L).length:Nat))), (0, .ref 47), (1, .ref a)]) dX11_putFew_23 rfl (by decide) rfl ?_
  refine v_aload_n dX11_putFew_24 rfl ?_
  refine v_get fX11_303 dX11_putFew_25 h_47 (by decide) rfl ?_
  refine v_iload_n dX11_putFew_28 rfl ?_
  refine w_iadd dX11_putFew_29 ?_
  refine v_aload_n dX11_putFew_30 rfl ?_
  refine v_get fX11_309 dX11_putFew_31 h_47 (by decide) rfl ?_
  refine w_isub dX11_putFew_34 ?_
  refine w_ei p9 ep9 ?_
  refine v_istore (i := 4) (lv' := [(4, .int (iI p9)), (3, .int (iI (G.length:Nat))), (2, .int (iI ((L).length:Nat))), (0, .ref 47), (1, .ref a)]) dX11_putFew_35 (by decide) rfl ?_
  refine w_sub (lv2 := [(0, .ref 47), (2, .int (iI ((L).length:Nat))), (3, .int (iI (G.length:Nat))), (4, .int (iI p9))]) [3, 2, 1, 0] rfl ?_
  rw [show (G.length : Nat) = (G.length - 1) + 1 from by omega]
  exact loop1 (G.length - 1) f G2 (by omega) (by rw [show G.length - 1 + 1 = G.length from by omega]) hbb htx h_47 h_67 hP.ns nS hF fr
/-- the first digits stand at 73 -/
def FW (h : zH) : Prop := ∃ f, h 73 = aN 80 f
theorem FW.fr {h h' : zH} {S : List Nat} (q : FW h) (f : zFr S h h') (ha : 73 ∉ S) : FW h' := by
  obtain ⟨g, h1⟩ := q
  exact ⟨g, (f 73 ha).trans h1⟩
theorem NS.zero {h H : zH} {a b : Nat} (q : NS h a b) (fr : H b = h b) (e : H a = oNat b 0) : ND H a b 0 := by
  obtain ⟨u, f, h1, h2, h3, -⟩ := q
  exact ⟨0, f, e, by rw [fr]; exact h2, h3, by decide, rfl, Or.inl rfl⟩
/-- the digits are sought: a number of cc digits that rounds back -/
noncomputable def rsS (w u D : Nat) (ten : Int) : Nat → Nat → Nat → Nat → Option (Nat × Nat)
  | 0, _, _, _ => none
  | m + 1, N, Lw, c => if (rR w u (Lw * 10 + N / D) (ten - c) || rR w u (Lw * 10 + N / D + 1) (ten - c)) = true then some (cond (rR w u (Lw * 10 + N / D + 1) (ten - c) && (!rR w u (Lw * 10 + N / D) (ten - c) || decide (D < N % D + N % D))) (Lw * 10 + N / D + 1) (Lw * 10 + N / D), c + 1) else rsS w u D ten m (N % D * 10) (Lw * 10 + N / D) (c + 1)
theorem rs_some {w u D : Nat} {ten : Int} {m N Lw c dd cc : Nat} (h : rsS w u D ten (m + 1) N Lw c = some (dd, cc)) :
    ((rR w u (Lw * 10 + N / D) (ten - c) || rR w u (Lw * 10 + N / D + 1) (ten - c)) = true ∧ dd = cond (rR w u (Lw * 10 + N / D + 1) (ten - c) && (!rR w u (Lw * 10 + N / D) (ten - c) || decide (D < N % D + N % D))) (Lw * 10 + N / D + 1) (Lw * 10 + N / D) ∧ cc = c + 1) ∨ ((rR w u (Lw * 10 + N / D) (ten - c) || rR w u (Lw * 10 + N / D + 1) (ten - c)) = false ∧ rsS w u D ten m (N % D * 10) (Lw * 10 + N / D) (c + 1) = some (dd, cc)) := by
  unfold rsS at h
  cases hb : (rR w u (Lw * 10 + N / D) (ten - c) || rR w u (Lw * 10 + N / D + 1) (ten - c)) with
  | true =>
    rw [hb, if_pos rfl] at h
    have := Option.some.inj h
    left
    exact ⟨rfl, (congrArg Prod.fst this).symm, (congrArg Prod.snd this).symm⟩
  | false =>
    rw [hb, if_neg (by decide)] at h
    exact Or.inr ⟨rfl, h⟩
set_option maxHeartbeats 8000000 in
set_option maxRecDepth 100000 in
theorem p_MputShort {d n w u M j k dd cc : Nat} {s E sg e rt th tp at9 sz dg pw tn fm : Int} {h : zH} (h_47 : h 47 = oModel s (M:Nat) E sg e rt th tp ((([] : List Nat)).length:Nat) at9 sz dg pw tn fm) (hT : TX h []) (nA : NS h 50 51) (nB : NS h 52 53) (nL : NS h 54 55) (nR : NS h 56 57) (nP : NS h 62 63) (nS : NS h 64 65) (hN : NS h 69 70) (hD : NS h 71 72) (hLo : NS h 74 75) (nUp : NS h 76 77) (hF : FG h) (hW : FW h) (hs : s = 1 ∨ s = -1) (hM : 0 < M ∧ M < 4294967296) (hE : -120 ≤ E ∧ E ≤ 120) (hu : u < 2147483648) (hw : 3 ≤ w ∧ w ≤ 32) (hsc : SC M E j k) (hS9 : rsS w u (2 ^ (-E).toNat * 10 ^ j) ((j : Int) - k) 58 (M * 2 ^ E.toNat * 10 ^ k) 0 0 = some (dd, cc)) (hd : 6 ≤ d) :
    zM yX11_putShort cX11_putShort 9 none d 0 0 [.ref 47, .long (jL (u:Nat)), .int (iI (w:Nat))] h n (fun r h' n' => r = none ∧ n' = n ∧ (∃ vs vm ve sg e rt tn fm, h' 47 = oModel vs vm ve sg e rt th tp (((if s < 0 then [45] else []) ++ fwT dd ((j : Int) - k) cc).length:Nat) at9 sz dg pw tn fm) ∧ TX h' ((if s < 0 then [45] else []) ++ fwT dd ((j : Int) - k) cc) ∧ (NS h' 50 51 ∧ NS h' 52 53 ∧ NS h' 54 55 ∧ NS h' 56 57 ∧ NS h' 62 63 ∧ NS h' 64 65 ∧ NS h' 69 70 ∧ NS h' 71 72 ∧ NS h' 74 75 ∧ NS h' 76 77) ∧ FG h' ∧ FW h' ∧ zFr [47, 50, 51, 52, 53, 54, 55, 56, 57, 62, 63, 64, 65, 67, 68, 69, 70, 71, 72, 73, 74, 75, 76, 77] h h') := by
  obtain ⟨sL, esL⟩ : ∃ sL : List Nat, (if s < 0 then [45] else []) = sL := ⟨_, rfl⟩
  have hsL : sL.length ≤ 1 := by rw [← esL]; split <;> simp
  obtain ⟨ten, eten⟩ : ∃ ten : Int, (j : Int) - k = ten := ⟨_, rfl⟩
  obtain ⟨D, eD⟩ : ∃ D, 2 ^ (-E).toNat * 10 ^ j = D := ⟨_, rfl⟩
  obtain ⟨N1, eN1⟩ : ∃ N1, M * 2 ^ E.toNat * 10 ^ k = N1 := ⟨_, rfl⟩
  have hten : -60 ≤ ten ∧ ten ≤ 60 := by have := hsc.2.2.2.2; omega
  have hD0 : 0 < D := by rw [← eD]; exact Nat.mul_pos (p_pos _) (Nat.pow_pos (by decide))
  have hDN : D ≤ N1 := by
    rcases Nat.eq_zero_or_pos j with z | z
    · rw [← eD, ← eN1, z, Nat.pow_zero, Nat.mul_one]; exact hsc.2.1
    · have := hsc.2.2.1 (j - 1) (by omega)
      rw [show j - 1 + 1 = j from by omega, eD, eN1] at this
      exact this
  have hDb : D < 2 ^ 400 := by
    have h1 : 2 ^ (-E).toNat < 2 ^ 121 := Nat.pow_lt_pow_right (by decide) (by omega)
    have h2 := Nat.mul_lt_mul'' h1 (p10_61 (i := j) (by have := hsc.2.2.2.2; omega))
    rw [eD, ← Nat.pow_add] at h2
    exact Nat.lt_trans h2 (Nat.pow_lt_pow_right (by decide) (by decide))
  have hN10 : N1 < D * 10 := by
    have := hsc.2.2.2.1
    rw [Nat.pow_succ, ← Nat.mul_assoc, eD, eN1] at this
    exact this
  rw [eten, eD, eN1] at hS9
  refine zM_of zyX11_putShort rfl (Nat.le_of_ble_eq_true rfl) (fun X hX => ?_)
  have fr : zFr [47, 50, 51, 52, 53, 54, 55, 56, 57, 62, 63, 64, 65, 67, 68, 69, 70, 71, 72, 73, 74, 75, 76, 77] h h := zFr.rf
  have loop : ∀ (m N Lw c : Nat) (vs vm ve sg e rt : Int) (H : zH), rsS w u D ten m N Lw c = some (dd, cc) → N < D * 10 → (c = 0 → D ≤ N) → (c ≠ 0 → 0 < Lw) → Lw < 10 ^ c → c + m ≤ 58 → H 47 = oModel vs vm ve sg e rt th tp ((sL).length:Nat) at9 sz dg pw ten (c:Nat) → ND H 69 70 N → ND H 71 72 D → ND H 74 75 Lw → NS H 76 77 → NS H 50 51 → NS H 52 53 → NS H 54 55 → NS H 56 57 → NS H 62 63 → NS H 64 65 → FG H → FW H → TX H sL → zFr [47, 50, 51, 52, 53, 54, 55, 56, 57, 62, 63, 64, 65, 67, 68, 69, 70, 71, 72, 73, 74, 75, 76, 77] h H → (zV X (fun r h' n' => r = none ∧ n' = n ∧ (∃ vs vm ve sg e rt tn fm, h' 47 = oModel vs vm ve sg e rt th tp (((if s < 0 then [45] else []) ++ fwT dd ((j : Int) - k) cc).length:Nat) at9 sz dg pw tn fm) ∧ TX h' ((if s < 0 then [45] else []) ++ fwT dd ((j : Int) - k) cc) ∧ (NS h' 50 51 ∧ NS h' 52 53 ∧ NS h' 54 55 ∧ NS h' 56 57 ∧ NS h' 62 63 ∧ NS h' 64 65 ∧ NS h' 69 70 ∧ NS h' 71 72 ∧ NS h' 74 75 ∧ NS h' 76 77) ∧ FG h' ∧ FW h' ∧ zFr [47, 50, 51, 52, 53, 54, 55, 56, 57, 62, 63, 64, 65, 67, 68, 69, 70, 71, 72, 73, 74, 75, 76, 77] h h') cX11_putShort 9 RX11 none d 0 0 38 [(0, .ref 47), (1, .long (jL (u:Nat))), (3, .int (iI (w:Nat)))] [] H n 0 0) := by
    intro m
    induction m with
    | zero =>
      intro N Lw c vs vm ve sg e rt H hS9
      exact absurd hS9 (by unfold rsS; simp)
    | succ m ih =>
      intro N Lw c vs vm ve sg e rt H hS9 hN10 hc0 hc1 hLw hcm h_47 hN hD hLo nUp nA nB nL nR nP nS hF hW hT fr
      obtain ⟨q, eq⟩ : ∃ q, N / D = q := ⟨_, rfl⟩
      obtain ⟨r0, er0⟩ : ∃ r0, N % D = r0 := ⟨_, rfl⟩
      have hq : q < 10 := by rw [← eq]; exact Nat.div_lt_of_lt_mul hN10
      have hr0 : r0 < D := by rw [← er0]; exact Nat.mod_lt _ hD0
      obtain ⟨Lq, eLq⟩ : ∃ Lq, Lw * 10 + q = Lq := ⟨_, rfl⟩
      have hLq0 : 0 < Lq := by
        rcases Nat.eq_zero_or_pos c with z | z
        · have h1 := hc0 z
          have := Nat.div_pos h1 hD0
          omega
        · have := hc1 (by omega); omega
      have hLq1 : Lq < 10 ^ (c + 1) := by rw [Nat.pow_succ]; omega
      have hLq2 : (10 : Nat) ^ (c + 1) ≤ 10 ^ 59 := Nat.pow_le_pow_right (by decide) (by omega)
      have hLq3 : Lq + 1 < 10 ^ 60 := by omega
      have hstep := rs_some hS9
      rw [eq, er0, eLq] at hstep
      have j72 : ∀ (H : zH), H 47 = oModel vs vm ve sg e rt th tp ((sL).length:Nat) at9 sz dg pw ten (c:Nat) → ND H 69 70 r0 → ND H 71 72 D → ND H 74 75 Lw → NS H 76 77 → NS H 50 51 → NS H 52 53 → NS H 54 55 → NS H 56 57 → NS H 62 63 → NS H 64 65 → FG H → FW H → TX H sL → zFr [47, 50, 51, 52, 53, 54, 55, 56, 57, 62, 63, 64, 65, 67, 68, 69, 70, 71, 72, 73, 74, 75, 76, 77] h H → (zV X (fun r h' n' => r = none ∧ n' = n ∧ (∃ vs vm ve sg e rt tn fm, h' 47 = oModel vs vm ve sg e rt th tp (((if s < 0 then [45] else []) ++ fwT dd ((j : Int) - k) cc).length:Nat) at9 sz dg pw tn fm) ∧ TX h' ((if s < 0 then [45] else []) ++ fwT dd ((j : Int) - k) cc) ∧ (NS h' 50 51 ∧ NS h' 52 53 ∧ NS h' 54 55 ∧ NS h' 56 57 ∧ NS h' 62 63 ∧ NS h' 64 65 ∧ NS h' 69 70 ∧ NS h' 71 72 ∧ NS h' 74 75 ∧ NS h' 76 77) ∧ FG h' ∧ FW h' ∧ zFr [47, 50, 51, 52, 53, 54, 55, 56, 57, 62, 63, 64, 65, 67, 68, 69, 70, 71, 72, 73, 74, 75, 76, 77] h h') cX11_putShort 9 RX11 none d 0 0 72 [(0, .ref 47), (1, .long (jL (u:Nat))), (3, .int (iI (w:Nat))), (4, .int (iI (q:Nat)))] [] H n 0 0) := by
        intro H h_47 hN hD hLo nUp nA nB nL nR nP nS hF hW hT fr
        obtain ⟨fw, h_73⟩ := id hW
        refine v_aload_n dX11_putShort_72 rfl ?_
        refine v_get fX11_153 dX11_putShort_73 h_47 (by decide) rfl ?_
        refine v_aload_n dX11_putShort_76 rfl ?_
        refine v_get fX11_309 dX11_putShort_77 h_47 (by decide) rfl ?_
        refine v_iload dX11_putShort_80 rfl ?_
        refine w_nast dX11_putShort_82 h_73 c (by omega) (by omega) (by decide) q (by omega) (fun H1 eH1 => ?_)
        obtain ⟨F1, eF1⟩ : ∃ zz9, zz9 = zup fw c q := ⟨_, rfl⟩
        rw [← eF1] at eH1
        have h_73 : H1 73 = aN 80 F1 := zf_same eH1
        have h_47 := (zf_ne eH1 (by decide)).trans h_47
        have fr := fr.put eH1 (by simp)
        refine v_aload_n dX11_putShort_83 rfl ?_
        refine v_dup dX11_putShort_84 rfl ?_
        refine v_get fX11_309 dX11_putShort_85 h_47 (by decide) rfl ?_
        refine v_iconst (iI 1) dX11_putShort_88 rfl ?_
        refine w_iadd dX11_putShort_89 ?_
        refine w_ei (c + 1:Nat) (by omega) ?_
        refine v_put (fs' := [.int (iI vs), .long (jL vm), .int (iI ve), .ref 48, .ref 49, .int (iI sg), .ref 50, .ref 52, .int (iI e), .int (iI rt), .ref 54, .ref 56, .ref 58, .ref 59, .ref 62, .ref 64, .int (iI th), .ref 66, .int (iI tp), .ref 67, .int (iI ((sL).length:Nat)), .int (iI at9), .int (iI sz), .int (iI dg), .int (iI pw), .ref 68, .ref 69, .ref 71, .int (iI ten), .ref 73, .int (iI (c + 1:Nat)), .ref 74, .ref 76]) fX11_309 dX11_putShort_90 h_47 (by decide) (Nat.le_of_ble_eq_true rfl) rfl rfl rfl (fun H2 eH2 => ?_)
        have h_47 : H2 47 = oModel vs vm ve sg e rt th tp ((sL).length:Nat) at9 sz dg pw ten (c + 1:Nat) := zf_same eH2
        have h_73 := (zf_ne eH2 (by decide)).trans h_73
        have fr := fr.put eH2 (by simp)
        have fz : zFr [47, 73] H H2 := (zFr.put zFr.rf eH1 (by simp)).put eH2 (by simp)
        have hW : FW H2 := ⟨_, h_73⟩
        have nA := nA.fr fz (by decide) (by decide)
        have nB := nB.fr fz (by decide) (by decide)
        have nL := nL.fr fz (by decide) (by decide)
        have nR := nR.fr fz (by decide) (by decide)
        have nP := nP.fr fz (by decide) (by decide)
        have nS := nS.fr fz (by decide) (by decide)
        have hF := hF.fr fz (by decide)
        have hT := hT.fr fz (by decide)
        have hN := hN.fr fz (by decide) (by decide)
        have hD := hD.fr fz (by decide) (by decide)
        have hLo := hLo.fr fz (by decide) (by decide)
        have nUp := nUp.fr fz (by decide) (by decide)
        refine v_aload_n dX11_putShort_93 rfl ?_
        refine v_get fX11_156 dX11_putShort_94 h_47 (by decide) rfl ?_
        refine v_ldc2_w (v := jL 10) kX11_274 dX11_putShort_97 ?_
        refine v_iload dX11_putShort_100 rfl ?_
        obtain ⟨_, _, h_74, -⟩ := id hLo
        refine v_cV (av := [.long (jL 10), .int (iI (q:Nat))]) (st := []) zyX9_times lX11_64 h_74 rfl (p_ntimes (d := 5) (x := 10) (y := q) hLo (by decide) (by omega) (lt12a (k := 240) (by have h9 : (10 : Nat) ^ 60 < 2 ^ 240 := (by decide); have h8 : (10 : Nat) ^ c ≤ 10 ^ 60 := Nat.pow_le_pow_right (by decide) (by omega); omega) (by decide))) dX11_putShort_102 rfl rfl (Nat.le_of_ble_eq_true rfl) (by omega) (Nat.le_of_ble_eq_true rfl) (Nat.le_of_ble_eq_true rfl) (Or.inl (fun _ _ _ q => ZN q)) (fun r9 G1 n9 q9 => ?_)
        obtain ⟨rfl, q9n, -, hLo, fr9⟩ := q9
        have q9n := q9n.symm
        subst q9n
        have hLo := hLo (by decide)
        rw [eLq] at hLo
        have h_47 := (fr9 47 (by decide)).trans h_47
        have nA := nA.fr fr9 (by decide) (by decide)
        have nB := nB.fr fr9 (by decide) (by decide)
        have nL := nL.fr fr9 (by decide) (by decide)
        have nR := nR.fr fr9 (by decide) (by decide)
        have nP := nP.fr fr9 (by decide) (by decide)
        have nS := nS.fr fr9 (by decide) (by decide)
        have hF := hF.fr fr9 (by decide)
        have hW := hW.fr fr9 (by decide)
        have hT := hT.fr fr9 (by decide)
        have hN := hN.fr fr9 (by decide) (by decide)
        have hD := hD.fr fr9 (by decide) (by decide)
        have nUp := nUp.fr fr9 (by decide) (by decide)
        have fr := fr.tr fr9 (by decide)
        refine v_aload_n dX11_putShort_105 rfl ?_
        refine v_get fX11_159 dX11_putShort_106 h_47 (by decide) rfl ?_
        refine v_aload_n dX11_putShort_109 rfl ?_
        refine v_get fX11_156 dX11_putShort_110 h_47 (by decide) rfl ?_
        obtain ⟨_, _, h_76, -⟩ := id nUp
        refine v_cV (av := [.ref 74]) (st := []) zyX9_copy lX11_57 h_76 rfl (p_ncopy (d := 5) nUp hLo (by decide)) dX11_putShort_113 rfl rfl (Nat.le_of_ble_eq_true rfl) (by omega) (Nat.le_of_ble_eq_true rfl) (Nat.le_of_ble_eq_true rfl) (Or.inl (fun _ _ _ q => ZN q)) (fun r9 G2 n9 q9 => ?_)
        obtain ⟨rfl, q9n, hUp, fr8⟩ := q9
        have q9n := q9n.symm
        subst q9n
        have nUp := hUp.ns
        have h_47 := (fr8 47 (by decide)).trans h_47
        have nA := nA.fr fr8 (by decide) (by decide)
        have nB := nB.fr fr8 (by decide) (by decide)
        have nL := nL.fr fr8 (by decide) (by decide)
        have nR := nR.fr fr8 (by decide) (by decide)
        have nP := nP.fr fr8 (by decide) (by decide)
        have nS := nS.fr fr8 (by decide) (by decide)
        have hF := hF.fr fr8 (by decide)
        have hW := hW.fr fr8 (by decide)
        have hT := hT.fr fr8 (by decide)
        have hN := hN.fr fr8 (by decide) (by decide)
        have hD := hD.fr fr8 (by decide) (by decide)
        have hLo := hLo.fr fr8 (by decide) (by decide)
        have fr := fr.tr fr8 (by decide)
        refine v_aload_n dX11_putShort_116 rfl ?_
        refine v_get fX11_106 dX11_putShort_117 h_47 (by decide) rfl ?_
        refine v_lconst (jL 1) dX11_putShort_120 rfl ?_
        obtain ⟨_, _, h_64, -⟩ := id nS
        refine v_cV (av := [.long (jL 1)]) (st := []) zyX9_set lX11_39 h_64 rfl (p_nset (d := 5) (x := 1) nS (by decide) (by decide) (by decide)) dX11_putShort_121 rfl rfl (Nat.le_of_ble_eq_true rfl) (by omega) (Nat.le_of_ble_eq_true rfl) (Nat.le_of_ble_eq_true rfl) (Or.inl (fun _ _ _ q => ZN q)) (fun r9 G3 n9 q9 => ?_)
        obtain ⟨rfl, q9n, hS1, fr7⟩ := q9
        have q9n := q9n.symm
        subst q9n
        have nS := hS1.ns
        have hUp := hUp.fr fr7 (by decide) (by decide)
        have h_47 := (fr7 47 (by decide)).trans h_47
        have nA := nA.fr fr7 (by decide) (by decide)
        have nB := nB.fr fr7 (by decide) (by decide)
        have nL := nL.fr fr7 (by decide) (by decide)
        have nR := nR.fr fr7 (by decide) (by decide)
        have nP := nP.fr fr7 (by decide) (by decide)
        have hF := hF.fr fr7 (by decide)
        have hW := hW.fr fr7 (by decide)
        have hT := hT.fr fr7 (by decide)
        have hN := hN.fr fr7 (by decide) (by decide)
        have hD := hD.fr fr7 (by decide) (by decide)
        have hLo := hLo.fr fr7 (by decide) (by decide)
        have nUp := nUp.fr fr7 (by decide) (by decide)
        have fr := fr.tr fr7 (by decide)
        refine v_aload_n dX11_putShort_124 rfl ?_
        refine v_get fX11_159 dX11_putShort_125 h_47 (by decide) rfl ?_
        refine v_aload_n dX11_putShort_128 rfl ?_
        refine v_get fX11_106 dX11_putShort_129 h_47 (by decide) rfl ?_
        obtain ⟨_, _, h_76, -⟩ := id hUp
        refine v_cV (av := [.ref 64]) (st := []) zyX9_add lX11_103 h_76 rfl (p_nadd (d := 5) hUp hS1 (by decide) (lt12a (k := 240) (by have h9 : (10 : Nat) ^ 60 < 2 ^ 240 := (by decide); omega) (by decide)) (lt12a (k := 1) (by decide) (by decide)) (by decide)) dX11_putShort_132 rfl rfl (Nat.le_of_ble_eq_true rfl) (by omega) (Nat.le_of_ble_eq_true rfl) (Nat.le_of_ble_eq_true rfl) (Or.inl (fun _ _ _ q => ZN q)) (fun r9 G4 n9 q9 => ?_)
        obtain ⟨rfl, q9n, hUp, fr6⟩ := q9
        have q9n := q9n.symm
        subst q9n
        have nUp := hUp.ns
        have h_47 := (fr6 47 (by decide)).trans h_47
        have nA := nA.fr fr6 (by decide) (by decide)
        have nB := nB.fr fr6 (by decide) (by decide)
        have nL := nL.fr fr6 (by decide) (by decide)
        have nR := nR.fr fr6 (by decide) (by decide)
        have nP := nP.fr fr6 (by decide) (by decide)
        have nS := nS.fr fr6 (by decide) (by decide)
        have hF := hF.fr fr6 (by decide)
        have hW := hW.fr fr6 (by decide)
        have hT := hT.fr fr6 (by decide)
        have hN := hN.fr fr6 (by decide) (by decide)
        have hD := hD.fr fr6 (by decide) (by decide)
        have hLo := hLo.fr fr6 (by decide) (by decide)
        have fr := fr.tr fr6 (by decide)
        refine v_aload_n dX11_putShort_135 rfl ?_
        refine v_get fX11_303 dX11_putShort_136 h_47 (by decide) rfl ?_
        refine v_aload_n dX11_putShort_139 rfl ?_
        refine v_get fX11_309 dX11_putShort_140 h_47 (by decide) rfl ?_
        refine w_isub dX11_putShort_143 ?_
        refine v_iconst (iI 1) dX11_putShort_144 rfl ?_
        refine w_iadd dX11_putShort_145 ?_
        refine w_ei (ten - c:Int) (by omega) ?_
        refine v_istore (i := 5) (lv' := [(5, .int (iI (ten - c:Int))), (0, .ref 47), (1, .long (jL (u:Nat))), (3, .int (iI (w:Nat))), (4, .int (iI (q:Nat)))]) dX11_putShort_146 (by decide) rfl ?_
        refine w_sub (lv2 := [(0, .ref 47), (1, .long (jL (u:Nat))), (3, .int (iI (w:Nat))), (5, .int (iI (ten - c:Int)))]) [1, 2, 3, 0] rfl ?_
        refine v_aload_n dX11_putShort_148 rfl ?_
        refine v_aload_n dX11_putShort_149 rfl ?_
        refine v_get fX11_156 dX11_putShort_150 h_47 (by decide) rfl ?_
        refine v_iload dX11_putShort_153 rfl ?_
        refine v_lload_n dX11_putShort_155 rfl ?_
        refine v_iload_n dX11_putShort_156 rfl ?_
        refine v_cV (av := [.ref 74, .int (iI (ten - c:Int)), .long (jL (u:Nat)), .int (iI (w:Nat))]) (st := []) zyX11_isRounded lX11_312 h_47 rfl (p_isRounded (d := 5) h_47 nA nB nL nR hLo (by decide) (by omega) (by omega) (by omega) hu hw (by decide)) dX11_putShort_157 rfl rfl (Nat.le_of_ble_eq_true rfl) (by omega) (Nat.le_of_ble_eq_true rfl) (Nat.le_of_ble_eq_true rfl) (Or.inl (fun _ _ _ q => ZN q)) (fun r9 G5 n9 q9 => ?_)
        obtain ⟨rfl, q9n, ⟨va, vb, vc, h_47⟩, nA, nB, nL, nR, fr5⟩ := q9
        have q9n := q9n.symm
        subst q9n
        have hUp := hUp.fr fr5 (by decide) (by decide)
        have nP := nP.fr fr5 (by decide) (by decide)
        have nS := nS.fr fr5 (by decide) (by decide)
        have hF := hF.fr fr5 (by decide)
        have hW := hW.fr fr5 (by decide)
        have hT := hT.fr fr5 (by decide)
        have hN := hN.fr fr5 (by decide) (by decide)
        have hD := hD.fr fr5 (by decide) (by decide)
        have hLo := hLo.fr fr5 (by decide) (by decide)
        have fr := fr.tr fr5 (by decide)
        have nUp := hUp.ns
        obtain ⟨b1, eb1⟩ : ∃ b1, rR w u Lq (ten - c) = b1 := ⟨_, rfl⟩
        refine w_ei (bz b1) (by rw [eb1]) ?_
        refine v_istore (i := 6) (lv' := [(6, .int (iI (bz b1))), (0, .ref 47), (1, .long (jL (u:Nat))), (3, .int (iI (w:Nat))), (5, .int (iI (ten - c:Int)))]) dX11_putShort_160 (by decide) rfl ?_
        refine v_aload_n dX11_putShort_162 rfl ?_
        refine v_aload_n dX11_putShort_163 rfl ?_
        refine v_get fX11_159 dX11_putShort_164 h_47 (by decide) rfl ?_
        refine v_iload dX11_putShort_167 rfl ?_
        refine v_lload_n dX11_putShort_169 rfl ?_
        refine v_iload_n dX11_putShort_170 rfl ?_
        refine v_cV (av := [.ref 76, .int (iI (ten - c:Int)), .long (jL (u:Nat)), .int (iI (w:Nat))]) (st := []) zyX11_isRounded lX11_312 h_47 rfl (p_isRounded (d := 5) h_47 nA nB nL nR hUp (by decide) (by omega) (by omega) (by omega) hu hw (by decide)) dX11_putShort_171 rfl rfl (Nat.le_of_ble_eq_true rfl) (by omega) (Nat.le_of_ble_eq_true rfl) (Nat.le_of_ble_eq_true rfl) (Or.inl (fun _ _ _ q => ZN q)) (fun r9 G6 n9 q9 => ?_)
        obtain ⟨rfl, q9n, ⟨vd, vf, vg, h_47⟩, nA, nB, nL, nR, fr4⟩ := q9
        have q9n := q9n.symm
        subst q9n
        have hUp := hUp.fr fr4 (by decide) (by decide)
        have nP := nP.fr fr4 (by decide) (by decide)
        have nS := nS.fr fr4 (by decide) (by decide)
        have hF := hF.fr fr4 (by decide)
        have hW := hW.fr fr4 (by decide)
        have hT := hT.fr fr4 (by decide)
        have hN := hN.fr fr4 (by decide) (by decide)
        have hD := hD.fr fr4 (by decide) (by decide)
        have hLo := hLo.fr fr4 (by decide) (by decide)
        have fr := fr.tr fr4 (by decide)
        have nUp := hUp.ns
        obtain ⟨b2, eb2⟩ : ∃ b2, rR w u (Lq + 1) (ten - c) = b2 := ⟨_, rfl⟩
        refine w_ei (bz b2) (by rw [eb2]) ?_
        refine v_istore (i := 7) (lv' := [(7, .int (iI (bz b2))), (6, .int (iI (bz b1))), (0, .ref 47), (1, .long (jL (u:Nat))), (3, .int (iI (w:Nat))), (5, .int (iI (ten - c:Int)))]) dX11_putShort_174 (by decide) rfl ?_
        refine w_sub (lv2 := [(0, .ref 47), (1, .long (jL (u:Nat))), (3, .int (iI (w:Nat))), (6, .int (iI (bz b1))), (7, .int (iI (bz b2)))]) [2, 3, 4, 1, 0] rfl ?_
        rw [eb1, eb2] at hstep
        have go : (b1 || b2) = true → (zV X (fun r h' n' => r = none ∧ n' = n ∧ (∃ vs vm ve sg e rt tn fm, h' 47 = oModel vs vm ve sg e rt th tp (((if s < 0 then [45] else []) ++ fwT dd ((j : Int) - k) cc).length:Nat) at9 sz dg pw tn fm) ∧ TX h' ((if s < 0 then [45] else []) ++ fwT dd ((j : Int) - k) cc) ∧ (NS h' 50 51 ∧ NS h' 52 53 ∧ NS h' 54 55 ∧ NS h' 56 57 ∧ NS h' 62 63 ∧ NS h' 64 65 ∧ NS h' 69 70 ∧ NS h' 71 72 ∧ NS h' 74 75 ∧ NS h' 76 77) ∧ FG h' ∧ FW h' ∧ zFr [47, 50, 51, 52, 53, 54, 55, 56, 57, 62, 63, 64, 65, 67, 68, 69, 70, 71, 72, 73, 74, 75, 76, 77] h h') cX11_putShort 9 RX11 none d 0 0 186 [(0, .ref 47), (1, .long (jL (u:Nat))), (3, .int (iI (w:Nat))), (6, .int (iI (bz b1))), (7, .int (iI (bz b2)))] [] G6 n 0 0) := by
          intro hb
          obtain ⟨edd, ecc⟩ : dd = cond (b2 && (!b1 || decide (D < r0 + r0))) (Lq + 1) Lq ∧ cc = c + 1 := by
            rcases hstep with z | z
            · exact z.2
            · exact absurd z.1 (by rw [hb]; decide)
          refine v_aload_n dX11_putShort_186 rfl ?_
          refine v_get fX11_54 dX11_putShort_187 h_47 (by decide) rfl ?_
          refine v_aload_n dX11_putShort_190 rfl ?_
          refine v_get fX11_147 dX11_putShort_191 h_47 (by decide) rfl ?_
          obtain ⟨_, _, h_54, -⟩ := id nL
          refine v_cV (av := [.ref 69]) (st := []) zyX9_copy lX11_57 h_54 rfl (p_ncopy (d := 5) nL hN (by decide)) dX11_putShort_194 rfl rfl (Nat.le_of_ble_eq_true rfl) (by omega) (Nat.le_of_ble_eq_true rfl) (Nat.le_of_ble_eq_true rfl) (Or.inl (fun _ _ _ q => ZN q)) (fun r9 G7 n9 q9 => ?_)
          obtain ⟨rfl, q9n, hLf, fr9⟩ := q9
          have q9n := q9n.symm
          subst q9n
          have nL := hLf.ns
          have h_47 := (fr9 47 (by decide)).trans h_47
          have hUp := hUp.fr fr9 (by decide) (by decide)
          have nA := nA.fr fr9 (by decide) (by decide)
          have nB := nB.fr fr9 (by decide) (by decide)
          have nR := nR.fr fr9 (by decide) (by decide)
          have nP := nP.fr fr9 (by decide) (by decide)
          have nS := nS.fr fr9 (by decide) (by decide)
          have hF := hF.fr fr9 (by decide)
          have hW := hW.fr fr9 (by decide)
          have hT := hT.fr fr9 (by decide)
          have hN := hN.fr fr9 (by decide) (by decide)
          have hD := hD.fr fr9 (by decide) (by decide)
          have hLo := hLo.fr fr9 (by decide) (by decide)
          have fr := fr.tr fr9 (by decide)
          have nUp := hUp.ns
          refine v_aload_n dX11_putShort_197 rfl ?_
          refine v_get fX11_54 dX11_putShort_198 h_47 (by decide) rfl ?_
          refine v_aload_n dX11_putShort_201 rfl ?_
          refine v_get fX11_147 dX11_putShort_202 h_47 (by decide) rfl ?_
          obtain ⟨_, _, h_54, -⟩ := id hLf
          refine v_cV (av := [.ref 69]) (st := []) zyX9_add lX11_103 h_54 rfl (p_nadd (d := 5) hLf hN (by decide) (lt12a (k := 400) (Nat.lt_trans hr0 hDb) (by decide)) (lt12a (k := 400) (Nat.lt_trans hr0 hDb) (by decide)) (by decide)) dX11_putShort_205 rfl rfl (Nat.le_of_ble_eq_true rfl) (by omega) (Nat.le_of_ble_eq_true rfl) (Nat.le_of_ble_eq_true rfl) (Or.inl (fun _ _ _ q => ZN q)) (fun r9 G8 n9 q9 => ?_)
          obtain ⟨rfl, q9n, hLf, fr8⟩ := q9
          have q9n := q9n.symm
          subst q9n
          have nL := hLf.ns
          have h_47 := (fr8 47 (by decide)).trans h_47
          have hUp := hUp.fr fr8 (by decide) (by decide)
          have nA := nA.fr fr8 (by decide) (by decide)
          have nB := nB.fr fr8 (by decide) (by decide)
          have nR := nR.fr fr8 (by decide) (by decide)
          have nP := nP.fr fr8 (by decide) (by decide)
          have nS := nS.fr fr8 (by decide) (by decide)
          have hF := hF.fr fr8 (by decide)
          have hW := hW.fr fr8 (by decide)
          have hT := hT.fr fr8 (by decide)
          have hN := hN.fr fr8 (by decide) (by decide)
          have hD := hD.fr fr8 (by decide) (by decide)
          have hLo := hLo.fr fr8 (by decide) (by decide)
          have fr := fr.tr fr8 (by decide)
          have nUp := hUp.ns
          have fin : ∀ up : Bool, up = (b2 && (!b1 || decide (D < r0 + r0))) → (zV X (fun r h' n' => r = none ∧ n' = n ∧ (∃ vs vm ve sg e rt tn fm, h' 47 = oModel vs vm ve sg e rt th tp (((if s < 0 then [45] else []) ++ fwT dd ((j : Int) - k) cc).length:Nat) at9 sz dg pw tn fm) ∧ TX h' ((if s < 0 then [45] else []) ++ fwT dd ((j : Int) - k) cc) ∧ (NS h' 50 51 ∧ NS h' 52 53 ∧ NS h' 54 55 ∧ NS h' 56 57 ∧ NS h' 62 63 ∧ NS h' 64 65 ∧ NS h' 69 70 ∧ NS h' 71 72 ∧ NS h' 74 75 ∧ NS h' 76 77) ∧ FG h' ∧ FW h' ∧ zFr [47, 50, 51, 52, 53, 54, 55, 56, 57, 62, 63, 64, 65, 67, 68, 69, 70, 71, 72, 73, 74, 75, 76, 77] h h') cX11_putShort 9 RX11 none d 0 0 237 [(0, .ref 47), (1, .long (jL (u:Nat))), (3, .int (iI (w:Nat))), (6, .int (iI (bz b1))), (7, .int (iI (bz b2)))] [.int (iI (bz up))] G8 n 0 0) := by
            intro up eup
            rw [← eup] at edd
            have last : ∀ (a b : Nat), (a = 74 ∧ b = 75) ∨ (a = 76 ∧ b = 77) → ND G8 a b dd → (zV X (fun r h' n' => r = none ∧ n' = n ∧ (∃ vs vm ve sg e rt tn fm, h' 47 = oModel vs vm ve sg e rt th tp (((if s < 0 then [45] else []) ++ fwT dd ((j : Int) - k) cc).length:Nat) at9 sz dg pw tn fm) ∧ TX h' ((if s < 0 then [45] else []) ++ fwT dd ((j : Int) - k) cc) ∧ (NS h' 50 51 ∧ NS h' 52 53 ∧ NS h' 54 55 ∧ NS h' 56 57 ∧ NS h' 62 63 ∧ NS h' 64 65 ∧ NS h' 69 70 ∧ NS h' 71 72 ∧ NS h' 74 75 ∧ NS h' 76 77) ∧ FG h' ∧ FW h' ∧ zFr [47, 50, 51, 52, 53, 54, 55, 56, 57, 62, 63, 64, 65, 67, 68, 69, 70, 71, 72, 73, 74, 75, 76, 77] h h') cX11_putShort 9 RX11 none d 0 0 256 [(0, .ref 47)] [.ref a, .ref 47] G8 n 0 0) := by
              intro a b hab hdd
              have hdd2 : dd < 10 ^ 62 := by
                have h9 : (10 : Nat) ^ 60 < 10 ^ 62 := by decide
                rw [edd]; cases up
                · rw [cond_false]; omega
                · rw [cond_true]; omega
              refine v_cV (av := [.ref a]) (st := []) zyX11_putFew lX11_316 h_47 rfl (p_putFew (d := 5) h_47 hT hdd (by omega) nP nS hF hdd2 (by omega) (by omega) (by omega) (by decide)) dX11_putShort_256 rfl rfl (Nat.le_of_ble_eq_true rfl) (by omega) (Nat.le_of_ble_eq_true rfl) (Nat.le_of_ble_eq_true rfl) (Or.inl (fun _ _ _ q => ZN q)) (fun r9 G9 n9 q9 => ?_)
              obtain ⟨rfl, q9n, h_47, hT, nP, nS, hF, fr9⟩ := q9
              have q9n := q9n.symm
              subst q9n
              have nA := nA.fr fr9 (by decide) (by decide)
              have nB := nB.fr fr9 (by decide) (by decide)
              have nL := nL.fr fr9 (by decide) (by decide)
              have nR := nR.fr fr9 (by decide) (by decide)
              have hW := hW.fr fr9 (by decide)
              have hN := hN.fr fr9 (by decide) (by decide)
              have hD := hD.fr fr9 (by decide) (by decide)
              have hLo := hLo.fr fr9 (by decide) (by decide)
              have nUp := nUp.fr fr9 (by decide) (by decide)
              have fr := fr.tr fr9 (by decide)
              exact v_vret dX11_putShort_259 trivial (Nat.le_of_ble_eq_true rfl) (Nat.le_of_ble_eq_true rfl) ⟨rfl, rfl, by rw [esL, eten, ecc]; exact ⟨_, _, _, _, _, _, _, _, h_47⟩, by rw [esL, eten, ecc]; exact hT, ⟨nA, nB, nL, nR, nP, nS, hN.ns, hD.ns, hLo.ns, nUp⟩, hF, hW, fr⟩
            refine v_istore (i := 8) (lv' := [(8, .int (iI (bz up))), (0, .ref 47), (1, .long (jL (u:Nat))), (3, .int (iI (w:Nat))), (6, .int (iI (bz b1))), (7, .int (iI (bz b2)))]) dX11_putShort_237 (by decide) rfl ?_
            refine v_aload_n dX11_putShort_239 rfl ?_
            refine v_iload dX11_putShort_240 rfl ?_
            refine w_ifb_eq 252 dX11_putShort_242 (by decide) (fun d1 => ?_) (fun d1 => ?_)
            · rw [d1, cond_false] at edd
              refine v_aload_n dX11_putShort_252 rfl ?_
              refine v_get fX11_156 dX11_putShort_253 h_47 (by decide) rfl ?_
              refine w_sub (lv2 := [(0, .ref 47)]) [1] rfl ?_
              exact last 74 75 (Or.inl ⟨rfl, rfl⟩) (by rw [edd]; exact hLo)
            · rw [d1, cond_true] at edd
              refine v_aload_n dX11_putShort_245 rfl ?_
              refine v_get fX11_159 dX11_putShort_246 h_47 (by decide) rfl ?_
              refine v_goto 256 dX11_putShort_249 (by decide) ?_
              refine w_sub (lv2 := [(0, .ref 47)]) [1] rfl ?_
              exact last 76 77 (Or.inr ⟨rfl, rfl⟩) (by rw [edd]; exact hUp)
          have cr := cmpz_r (r0 + r0) D
          have cl := cmpz_lt (v := r0 + r0) (w := D)
          have ce := cmpz_eq (v := r0 + r0) (w := D)
          refine v_iload dX11_putShort_208 rfl ?_
          refine w_ifb_eq 236 dX11_putShort_210 (by decide) (fun d1 => ?_) (fun d1 => ?_)
          · skip
            refine v_iconst (iI 0) dX11_putShort_236 rfl ?_
            refine w_ei (bz false) rfl ?_
            exact fin false (by rw [d1]; rfl)
          · skip
            refine v_iload dX11_putShort_213 rfl ?_
            refine w_ifb_eq 232 dX11_putShort_215 (by decide) (fun d2 => ?_) (fun d2 => ?_)
            · skip
              refine v_iconst (iI 1) dX11_putShort_232 rfl ?_
              refine v_goto 237 dX11_putShort_233 (by decide) ?_
              refine w_ei (bz true) rfl ?_
              exact fin true (by rw [d1, d2]; rfl)
            · skip
              refine v_aload_n dX11_putShort_218 rfl ?_
              refine v_get fX11_54 dX11_putShort_219 h_47 (by decide) rfl ?_
              refine v_aload_n dX11_putShort_222 rfl ?_
              refine v_get fX11_150 dX11_putShort_223 h_47 (by decide) rfl ?_
              obtain ⟨_, _, h_54, -⟩ := id hLf
              refine v_cV (av := [.ref 71]) (st := []) zyX9_compare lX11_75 h_54 rfl (p_ncompare (d := 5) hLf hD) dX11_putShort_226 rfl rfl (Nat.le_of_ble_eq_true rfl) (by omega) (Nat.le_of_ble_eq_true rfl) (Nat.le_of_ble_eq_true rfl) (Or.inl (fun _ _ _ q => ZN q)) (fun r9 K1 n9 q9 => ?_)
              obtain ⟨rfl, q9n, q9h⟩ := q9
              have q9n := q9n.symm
              subst q9n
              have q9h := q9h.symm
              subst q9h
              refine w_if_le 236 dX11_putShort_229 (by decide) (by omega) (fun d3 => ?_) (fun d3 => ?_)
              · skip
                refine v_iconst (iI 0) dX11_putShort_236 rfl ?_
                refine w_ei (bz false) rfl ?_
                exact fin false (by rw [d1, d2, decide_eq_false (by omega)]; rfl)
              · skip
                refine v_iconst (iI 1) dX11_putShort_232 rfl ?_
                refine v_goto 237 dX11_putShort_233 (by decide) ?_
                refine w_ei (bz true) rfl ?_
                exact fin true (by rw [d1, d2, decide_eq_true (by omega)]; rfl)
        refine v_iload dX11_putShort_176 rfl ?_
        refine w_ifb_ne 186 dX11_putShort_178 (by decide) (fun d1 => ?_) (fun d1 => ?_)
        · exact go (by rw [d1]; rfl)
        · skip
          refine v_iload dX11_putShort_181 rfl ?_
          refine w_ifb_eq 260 dX11_putShort_183 (by decide) (fun d2 => ?_) (fun d2 => ?_)
          · have hS9 : rsS w u D ten m (r0 * 10) Lq (c + 1) = some (dd, cc) := by
              rcases hstep with z | z
              · exact absurd z.1 (by rw [d1, d2]; decide)
              · exact z.2
            refine v_aload_n dX11_putShort_260 rfl ?_
            refine v_get fX11_147 dX11_putShort_261 h_47 (by decide) rfl ?_
            refine v_ldc2_w (v := jL 10) kX11_274 dX11_putShort_264 ?_
            refine v_iconst (iI 0) dX11_putShort_267 rfl ?_
            obtain ⟨_, _, h_69, -⟩ := id hN
            refine v_cV (av := [.long (jL 10), .int (iI 0)]) (st := []) zyX9_times lX11_64 h_69 rfl (p_ntimes (d := 5) (x := 10) (y := 0) hN (by decide) (by decide) (lt12a (k := 400) (Nat.lt_trans hr0 hDb) (by decide))) dX11_putShort_268 rfl rfl (Nat.le_of_ble_eq_true rfl) (by omega) (Nat.le_of_ble_eq_true rfl) (Nat.le_of_ble_eq_true rfl) (Or.inl (fun _ _ _ q => ZN q)) (fun r9 G7 n9 q9 => ?_)
            obtain ⟨rfl, q9n, -, hN, fr9⟩ := q9
            have q9n := q9n.symm
            subst q9n
            have hN := hN (by decide)
            rw [Nat.add_zero] at hN
            have h_47 := (fr9 47 (by decide)).trans h_47
            have nA := nA.fr fr9 (by decide) (by decide)
            have nB := nB.fr fr9 (by decide) (by decide)
            have nL := nL.fr fr9 (by decide) (by decide)
            have nR := nR.fr fr9 (by decide) (by decide)
            have nP := nP.fr fr9 (by decide) (by decide)
            have nS := nS.fr fr9 (by decide) (by decide)
            have hF := hF.fr fr9 (by decide)
            have hW := hW.fr fr9 (by decide)
            have hT := hT.fr fr9 (by decide)
            have hD := hD.fr fr9 (by decide) (by decide)
            have hLo := hLo.fr fr9 (by decide) (by decide)
            have nUp := nUp.fr fr9 (by decide) (by decide)
            have fr := fr.tr fr9 (by decide)
            refine v_goto 38 dX11_putShort_271 (by decide) ?_
            refine w_sub (lv2 := [(0, .ref 47), (1, .long (jL (u:Nat))), (3, .int (iI (w:Nat)))]) [0, 1, 2] rfl ?_
            exact ih (r0 * 10) Lq (c + 1) vd vf vg 1 0 1 G7 hS9 (by omega) (fun z => absurd z (by omega)) (fun _ => hLq0) hLq1 (by omega) h_47 hN hD hLo nUp nA nB nL nR nP nS hF hW hT fr
          · exact go (by rw [d2, Bool.or_true])
      have inner : ∀ (y i : Nat) (H : zH), i + y = q → H 47 = oModel vs vm ve sg e rt th tp ((sL).length:Nat) at9 sz dg pw ten (c:Nat) → ND H 69 70 (r0 + D * y) → ND H 71 72 D → ND H 74 75 Lw → NS H 76 77 → NS H 50 51 → NS H 52 53 → NS H 54 55 → NS H 56 57 → NS H 62 63 → NS H 64 65 → FG H → FW H → TX H sL → zFr [47, 50, 51, 52, 53, 54, 55, 56, 57, 62, 63, 64, 65, 67, 68, 69, 70, 71, 72, 73, 74, 75, 76, 77] h H → (zV X (fun r h' n' => r = none ∧ n' = n ∧ (∃ vs vm ve sg e rt tn fm, h' 47 = oModel vs vm ve sg e rt th tp (((if s < 0 then [45] else []) ++ fwT dd ((j : Int) - k) cc).length:Nat) at9 sz dg pw tn fm) ∧ TX h' ((if s < 0 then [45] else []) ++ fwT dd ((j : Int) - k) cc) ∧ (NS h' 50 51 ∧ NS h' 52 53 ∧ NS h' 54 55 ∧ NS h' 56 57 ∧ NS h' 62 63 ∧ NS h' 64 65 ∧ NS h' 69 70 ∧ NS h' 71 72 ∧ NS h' 74 75 ∧ NS h' 76 77) ∧ FG h' ∧ FW h' ∧ zFr [47, 50, 51, 52, 53, 54, 55, 56, 57, 62, 63, 64, 65, 67, 68, 69, 70, 71, 72, 73, 74, 75, 76, 77] h h') cX11_putShort 9 RX11 none d 0 0 41 [(0, .ref 47), (1, .long (jL (u:Nat))), (3, .int (iI (w:Nat))), (4, .int (iI (i:Nat)))] [] H n 0 0) := by
        intro y
        induction y with
        | zero =>
          intro i H hi h_47 hN hD hLo nUp nA nB nL nR nP nS hF hW hT fr
          have ei : i = q := by omega
          subst ei
          rw [Nat.mul_zero, Nat.add_zero] at hN
          have cr := cmpz_r r0 D
          have cl := cmpz_lt (v := r0) (w := D)
          obtain ⟨_, _, h_69, -⟩ := id hN
          refine v_aload_n dX11_putShort_41 rfl ?_
          refine v_get fX11_147 dX11_putShort_42 h_47 (by decide) rfl ?_
          refine v_aload_n dX11_putShort_45 rfl ?_
          refine v_get fX11_150 dX11_putShort_46 h_47 (by decide) rfl ?_
          refine v_cV (av := [.ref 71]) (st := []) zyX9_compare lX11_75 h_69 rfl (p_ncompare (d := 5) hN hD) dX11_putShort_49 rfl rfl (Nat.le_of_ble_eq_true rfl) (by omega) (Nat.le_of_ble_eq_true rfl) (Nat.le_of_ble_eq_true rfl) (Or.inl (fun _ _ _ q => ZN q)) (fun r9 K1 n9 q9 => ?_)
          obtain ⟨rfl, q9n, q9h⟩ := q9
          have q9n := q9n.symm
          subst q9n
          have q9h := q9h.symm
          subst q9h
          refine w_if_lt 72 dX11_putShort_52 (by decide) (by omega) (fun d1 => ?_) (fun d1 => ?_)
          · exact j72 H h_47 hN hD hLo nUp nA nB nL nR nP nS hF hW hT fr
          · exact absurd (cl.mpr hr0) d1
        | succ y ih2 =>
          intro i H hi h_47 hN hD hLo nUp nA nB nL nR nP nS hF hW hT fr
          have hge : D ≤ r0 + D * (y + 1) := by rw [Nat.mul_succ]; omega
          have cr := cmpz_r (r0 + D * (y + 1)) D
          have cl := cmpz_lt (v := r0 + D * (y + 1)) (w := D)
          obtain ⟨_, _, h_69, -⟩ := id hN
          refine v_aload_n dX11_putShort_41 rfl ?_
          refine v_get fX11_147 dX11_putShort_42 h_47 (by decide) rfl ?_
          refine v_aload_n dX11_putShort_45 rfl ?_
          refine v_get fX11_150 dX11_putShort_46 h_47 (by decide) rfl ?_
          refine v_cV (av := [.ref 71]) (st := []) zyX9_compare lX11_75 h_69 rfl (p_ncompare (d := 5) hN hD) dX11_putShort_49 rfl rfl (Nat.le_of_ble_eq_true rfl) (by omega) (Nat.le_of_ble_eq_true rfl) (Nat.le_of_ble_eq_true rfl) (Or.inl (fun _ _ _ q => ZN q)) (fun r9 K1 n9 q9 => ?_)
          obtain ⟨rfl, q9n, q9h⟩ := q9
          have q9n := q9n.symm
          subst q9n
          have q9h := q9h.symm
          subst q9h
          refine w_if_lt 72 dX11_putShort_52 (by decide) (by omega) (fun d1 => ?_) (fun d1 => ?_)
          · exact absurd (cl.mp d1) (by omega)
          · skip
            refine v_aload_n dX11_putShort_55 rfl ?_
            refine v_get fX11_147 dX11_putShort_56 h_47 (by decide) rfl ?_
            refine v_aload_n dX11_putShort_59 rfl ?_
            refine v_get fX11_150 dX11_putShort_60 h_47 (by decide) rfl ?_
            refine v_cV (av := [.ref 71]) (st := []) zyX9_less lX11_109 h_69 rfl (p_nless (d := 5) hN hD (by decide) hge (by decide)) dX11_putShort_63 rfl rfl (Nat.le_of_ble_eq_true rfl) (by omega) (Nat.le_of_ble_eq_true rfl) (Nat.le_of_ble_eq_true rfl) (Or.inl (fun _ _ _ q => ZN q)) (fun r9 G1 n9 q9 => ?_)
            obtain ⟨rfl, q9n, hN, fr9⟩ := q9
            have q9n := q9n.symm
            subst q9n
            rw [show r0 + D * (y + 1) - D = r0 + D * y from by rw [Nat.mul_succ]; omega] at hN
            have h_47 := (fr9 47 (by decide)).trans h_47
            have nA := nA.fr fr9 (by decide) (by decide)
            have nB := nB.fr fr9 (by decide) (by decide)
            have nL := nL.fr fr9 (by decide) (by decide)
            have nR := nR.fr fr9 (by decide) (by decide)
            have nP := nP.fr fr9 (by decide) (by decide)
            have nS := nS.fr fr9 (by decide) (by decide)
            have hF := hF.fr fr9 (by decide)
            have hW := hW.fr fr9 (by decide)
            have hT := hT.fr fr9 (by decide)
            have hD := hD.fr fr9 (by decide) (by decide)
            have hLo := hLo.fr fr9 (by decide) (by decide)
            have nUp := nUp.fr fr9 (by decide) (by decide)
            have fr := fr.tr fr9 (by decide)
            refine w_iinc (lv' := [(4, .int (iI ((i:Nat) + 1))), (0, .ref 47), (1, .long (jL (u:Nat))), (3, .int (iI (w:Nat)))]) dX11_putShort_66 rfl (by decide) rfl ?_
            refine v_goto 41 dX11_putShort_69 (by decide) ?_
            refine w_sub (lv2 := [(0, .ref 47), (1, .long (jL (u:Nat))), (3, .int (iI (w:Nat))), (4, .int (iI ((i:Nat) + 1)))]) [1, 2, 3, 0] rfl ?_
            rw [show ((i : Nat) : Int) + 1 = ((i + 1 : Nat) : Int) from by omega]
            exact ih2 (i + 1) G1 (by omega) h_47 hN hD hLo nUp nA nB nL nR nP nS hF hW hT fr
      refine v_iconst (iI 0) dX11_putShort_38 rfl ?_
      refine v_istore (i := 4) (lv' := [(4, .int (iI 0)), (0, .ref 47), (1, .long (jL (u:Nat))), (3, .int (iI (w:Nat)))]) dX11_putShort_39 (by decide) rfl ?_
      refine w_sub (lv2 := [(0, .ref 47), (1, .long (jL (u:Nat))), (3, .int (iI (w:Nat))), (4, .int (iI 0))]) [1, 2, 3, 0] rfl ?_
      refine inner q 0 H (by omega) h_47 ?_ hD hLo nUp nA nB nL nR nP nS hF hW hT fr
      rw [← er0, ← eq, Nat.mod_add_div]; exact hN
  have j13 : ∀ (H : zH), H 47 = oModel s (M:Nat) E sg e rt th tp ((sL).length:Nat) at9 sz dg pw tn fm → NS H 69 70 → NS H 71 72 → NS H 74 75 → NS H 76 77 → NS H 50 51 → NS H 52 53 → NS H 54 55 → NS H 56 57 → NS H 62 63 → NS H 64 65 → FG H → FW H → TX H sL → zFr [47, 50, 51, 52, 53, 54, 55, 56, 57, 62, 63, 64, 65, 67, 68, 69, 70, 71, 72, 73, 74, 75, 76, 77] h H → (zV X (fun r h' n' => r = none ∧ n' = n ∧ (∃ vs vm ve sg e rt tn fm, h' 47 = oModel vs vm ve sg e rt th tp (((if s < 0 then [45] else []) ++ fwT dd ((j : Int) - k) cc).length:Nat) at9 sz dg pw tn fm) ∧ TX h' ((if s < 0 then [45] else []) ++ fwT dd ((j : Int) - k) cc) ∧ (NS h' 50 51 ∧ NS h' 52 53 ∧ NS h' 54 55 ∧ NS h' 56 57 ∧ NS h' 62 63 ∧ NS h' 64 65 ∧ NS h' 69 70 ∧ NS h' 71 72 ∧ NS h' 74 75 ∧ NS h' 76 77) ∧ FG h' ∧ FW h' ∧ zFr [47, 50, 51, 52, 53, 54, 55, 56, 57, 62, 63, 64, 65, 67, 68, 69, 70, 71, 72, 73, 74, 75, 76, 77] h h') cX11_putShort 9 RX11 none d 0 0 13 [(0, .ref 47), (1, .long (jL (u:Nat))), (3, .int (iI (w:Nat)))] [] H n 0 0) := by
    intro H h_47 hN hD hLo nUp nA nB nL nR nP nS hF hW hT fr
    refine v_aload_n dX11_putShort_13 rfl ?_
    refine v_aload_n dX11_putShort_14 rfl ?_
    refine v_get fX11_7 dX11_putShort_15 h_47 (by decide) rfl ?_
    refine v_aload_n dX11_putShort_18 rfl ?_
    refine v_get fX11_13 dX11_putShort_19 h_47 (by decide) rfl ?_
    refine v_cV (av := [.long (jL (M:Nat)), .int (iI E)]) (st := []) zyX11_scale lX11_306 h_47 rfl (p_Mscale (d := 5) h_47 hN hD nL hM.2 hE hsc (by decide)) dX11_putShort_22 rfl rfl (Nat.le_of_ble_eq_true rfl) (by omega) (Nat.le_of_ble_eq_true rfl) (Nat.le_of_ble_eq_true rfl) (Or.inl (fun _ _ _ q => ZN q)) (fun r9 G1 n9 q9 => ?_)
    obtain ⟨rfl, q9n, h_47, hN, hD, nL, fr9⟩ := q9
    have q9n := q9n.symm
    subst q9n
    rw [eN1] at hN
    rw [eD] at hD
    rw [eten] at h_47
    have nA := nA.fr fr9 (by decide) (by decide)
    have nB := nB.fr fr9 (by decide) (by decide)
    have nR := nR.fr fr9 (by decide) (by decide)
    have nP := nP.fr fr9 (by decide) (by decide)
    have nS := nS.fr fr9 (by decide) (by decide)
    have hF := hF.fr fr9 (by decide)
    have hW := hW.fr fr9 (by decide)
    have hT := hT.fr fr9 (by decide)
    have hLo := hLo.fr fr9 (by decide) (by decide)
    have nUp := nUp.fr fr9 (by decide) (by decide)
    have fr := fr.tr fr9 (by decide)
    obtain ⟨u9, _, h_74, -⟩ := id hLo
    refine v_aload_n dX11_putShort_25 rfl ?_
    refine v_get fX11_156 dX11_putShort_26 h_47 (by decide) rfl ?_
    refine v_iconst (iI 0) dX11_putShort_29 rfl ?_
    refine v_putN (fs' := [.ref 75, .int (iI 0)]) fX11_206 dX11_putShort_30 h_74 (by decide) (Nat.le_of_ble_eq_true rfl) rfl rfl rfl (fun H1 eH1 => ?_)
    have h_74 : H1 74 = oNat 75 0 := zf_same eH1
    have h_47 := (zf_ne eH1 (by decide)).trans h_47
    have fr := fr.put eH1 (by simp)
    refine v_aload_n dX11_putShort_33 rfl ?_
    refine v_iconst (iI 0) dX11_putShort_34 rfl ?_
    refine v_put (fs' := [.int (iI s), .long (jL (M:Nat)), .int (iI E), .ref 48, .ref 49, .int (iI sg), .ref 50, .ref 52, .int (iI e), .int (iI rt), .ref 54, .ref 56, .ref 58, .ref 59, .ref 62, .ref 64, .int (iI th), .ref 66, .int (iI tp), .ref 67, .int (iI ((sL).length:Nat)), .int (iI at9), .int (iI sz), .int (iI dg), .int (iI pw), .ref 68, .ref 69, .ref 71, .int (iI ten), .ref 73, .int (iI 0), .ref 74, .ref 76]) fX11_309 dX11_putShort_35 h_47 (by decide) (Nat.le_of_ble_eq_true rfl) rfl rfl rfl (fun H2 eH2 => ?_)
    have h_47 : H2 47 = oModel s (M:Nat) E sg e rt th tp ((sL).length:Nat) at9 sz dg pw ten 0 := zf_same eH2
    have h_74 := (zf_ne eH2 (by decide)).trans h_74
    have fr := fr.put eH2 (by simp)
    have hLo : ND H2 74 75 0 := NS.zero hLo ((zf_ne eH2 (by decide)).trans (zf_ne eH1 (by decide))) h_74
    have fz : zFr [47, 74] G1 H2 := (zFr.put zFr.rf eH1 (by simp)).put eH2 (by simp)
    have nA := nA.fr fz (by decide) (by decide)
    have nB := nB.fr fz (by decide) (by decide)
    have nL := nL.fr fz (by decide) (by decide)
    have nR := nR.fr fz (by decide) (by decide)
    have nP := nP.fr fz (by decide) (by decide)
    have nS := nS.fr fz (by decide) (by decide)
    have hF := hF.fr fz (by decide)
    have hW := hW.fr fz (by decide)
    have hT := hT.fr fz (by decide)
    have hN := hN.fr fz (by decide) (by decide)
    have hD := hD.fr fz (by decide) (by decide)
    have nUp := nUp.fr fz (by decide) (by decide)
    exact loop 58 N1 0 0 s M E sg e rt H2 hS9 hN10 (fun _ => hDN) (fun z => absurd rfl z) (by decide) (by decide) h_47 hN hD hLo nUp nA nB nL nR nP nS hF hW hT fr
  refine v_aload_n dX11_putShort_0 rfl ?_
  refine v_get fX11_17 dX11_putShort_1 h_47 (by decide) rfl ?_
  refine w_if_ge 13 dX11_putShort_4 (by decide) (by omega) (fun c1 => ?_) (fun c1 => ?_)
  · have e0 : sL = [] := by rw [← esL, if_neg (by omega)]
    exact j13 h (by rw [e0]; exact h_47) hN hD hLo nUp nA nB nL nR nP nS hF hW (by rw [e0]; exact hT) fr
  · have e0 : sL = [45] := by rw [← esL, if_pos (by omega)]
    refine v_aload_n dX11_putShort_7 rfl ?_
    refine v_bipush (iI 45) dX11_putShort_8 rfl ?_
    refine v_cV (av := [.int (iI 45)]) (st := []) zyX11_put lX11_297 h_47 rfl (p_Mput (d := 5) (c := 45) h_47 hT (by decide) (by decide)) dX11_putShort_10 rfl rfl (Nat.le_of_ble_eq_true rfl) (by omega) (Nat.le_of_ble_eq_true rfl) (Nat.le_of_ble_eq_true rfl) (Or.inl (fun _ _ _ q => ZN q)) (fun r9 G1 n9 q9 => ?_)
    obtain ⟨rfl, q9n, h_47, hT, fr9⟩ := q9
    have q9n := q9n.symm
    subst q9n
    have nA := nA.fr fr9 (by decide) (by decide)
    have nB := nB.fr fr9 (by decide) (by decide)
    have nL := nL.fr fr9 (by decide) (by decide)
    have nR := nR.fr fr9 (by decide) (by decide)
    have nP := nP.fr fr9 (by decide) (by decide)
    have nS := nS.fr fr9 (by decide) (by decide)
    have hF := hF.fr fr9 (by decide)
    have hW := hW.fr fr9 (by decide)
    have hN := hN.fr fr9 (by decide) (by decide)
    have hD := hD.fr fr9 (by decide) (by decide)
    have hLo := hLo.fr fr9 (by decide) (by decide)
    have nUp := nUp.fr fr9 (by decide) (by decide)
    have fr := fr.tr fr9 (by decide)
    exact j13 G1 (by rw [e0]; exact h_47) hN hD hLo nUp nA nB nL nR nP nS hF hW (by rw [e0]; exact hT) fr
