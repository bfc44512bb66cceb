/-! Wide: copy, copyWords -/
section
variable {X : zX} {Post : zP} {cc : ByteArray} {nL : Nat} {own : String} {ret : Option FieldType} {d MC MS pc : Nat} {lv : List (Nat × Value)} {st : List Value} {h : zH} {n cells slots : Nat}
theorem w_copy {a b idx N0 N1 : Nat} {f g : Nat → Nat} (k : Nat) (hw : Cond.methodLink own idx arraycopyName ∈ ALL ∧ Cond.native arraycopyName ∈ ALL ∧ Cond.static arraycopyName ∈ ALL ∧ Cond.initialized "java/lang/System" ∈ ALL) (hd : decode cc pc = .ok (.invokestatic idx, 3)) (hdd : 1 ≤ d) (hW : (st.map fun v => v.category).sum ≤ 8) (ha : h a = aN N0 f) (hb9 : h b = aN N1 g) (hk : k < 1000) (h4 : k ≤ N0) (h5 : k ≤ N1)
    (k9 : ∀ h1 : zH, zu h b (aN N1 (fun j => if j < k then f j else g j)) = h1 → zV X Post cc nL own ret d MC MS (pc + 3) lv st h1 n cells slots) : zV X Post cc nL own ret d MC MS pc lv (.int (iI (k : Nat)) :: .int (iI 0) :: .ref b :: .int (iI 0) :: .ref a :: st) h n cells slots := by
  have e0 : (iI 0).toNatClampNeg = 0 := iI_clamp (k := 0) (by decide)
  have ek : (iI (k : Nat)).toNatClampNeg = k := iI_clamp (by omega)
  have n0 : ¬ iI 0 < 0 := by decide
  have nk : ¬ iI (k : Nat) < 0 := fun q => by
    have := (iI_lt (a := (k : Int)) (b := 0) ⟨by omega, by omega⟩ ⟨by decide, by decide⟩).mp q
    omega
  refine v_copyi hw hd hdd hW ha hb9 n0 n0 nk (by rw [e0, ek]; omega) (by rw [e0, ek]; omega) ?_
  rw [e0, ek]
  have e : va_cpy (fun i => iI (f i : Nat)) (fun i => iI (g i : Nat)) 0 0 k = (fun i => iI ((if i < k then f i else g i : Nat) : Int)) := by
    funext j
    unfold va_cpy
    by_cases q : j < k
    · rw [if_pos ⟨Nat.zero_le _, by omega⟩, if_pos q, Nat.sub_zero, Nat.zero_add]
    · rw [if_neg (by omega), if_neg q]
  rw [e]
  exact k9
end
set_option maxHeartbeats 4000000 in
set_option maxRecDepth 100000 in
theorem p_copy {d n a b c e v w : Nat} {h : zH} (hw : WD h a b v) (hw2 : WD h c e w) (hne : c ≠ b ∧ e ≠ b ∧ e ≠ a) (hd : 1 ≤ d) :
    zM yX7_copy cX7_copy 2 none d 0 0 [.ref a, .ref c] h n (fun r h' n' => r = none ∧ n' = n ∧ WD h' a b w ∧ zFr [a, b] h h') := by
  obtain ⟨u, f, h_a, h_b, hf, hu, hv, ht⟩ := hw
  obtain ⟨u2, g, h_c, h_e, hg, hu2, hv2, ht2⟩ := hw2
  have ne_b_a := wne h_a h_b
  have ne_a_b := ne_b_a.symm
  refine zM_of zyX7_copy rfl (Nat.le_of_ble_eq_true rfl) (fun X hX => ?_)
  have fr : zFr [a, b] h h := zFr.rf
  refine v_aload_n dX7_copy_0 rfl ?_
  refine v_get fX7_9 dX7_copy_1 h_c (by decide) rfl ?_
  refine v_iconst (iI 0) dX7_copy_4 rfl ?_
  refine v_aload_n dX7_copy_5 rfl ?_
  refine v_get fX7_9 dX7_copy_6 h_a (by decide) rfl ?_
  refine v_iconst (iI 0) dX7_copy_9 rfl ?_
  refine v_aload_n dX7_copy_10 rfl ?_
  refine v_get fX7_13 dX7_copy_11 h_c (by decide) rfl ?_
  refine w_copy (st := []) u2 aX7_20 dX7_copy_14 hd (Nat.le_of_ble_eq_true rfl) h_e h_b (by omega) hu2 hu2 (fun H1 eH1 => ?_)
  have h_b := zf_same eH1
  have h_a := (zf_ne eH1 ne_a_b).trans h_a
  have h_c := (zf_ne eH1 hne.1).trans h_c
  have h_e := (zf_ne eH1 hne.2.1).trans h_e
  have fr := fr.put eH1 (by simp)
  refine v_aload_n dX7_copy_17 rfl ?_
  refine v_aload_n dX7_copy_18 rfl ?_
  refine v_get fX7_13 dX7_copy_19 h_c (by decide) rfl ?_
  refine v_put (fs' := [.ref b, .int (iI (u2:Nat))]) fX7_13 dX7_copy_22 h_a (by decide) (Nat.le_of_ble_eq_true rfl) rfl rfl rfl (fun H2 eH2 => ?_)
  have h_a : H2 a = oWide b (u2:Nat) := zf_same eH2
  have h_b := (zf_ne eH2 ne_b_a).trans h_b
  have fr := fr.put eH2 (by simp)
  exact v_vret dX7_copy_25 trivial (Nat.le_of_ble_eq_true rfl) (Nat.le_of_ble_eq_true rfl) ⟨rfl, rfl, ⟨u2, _, h_a, h_b, fun j => by
    show (if j < u2 then g j else f j) < _
    split
    · exact hg j
    · exact hf j, hu2, by rw [← hv2]; exact wv_congr u2 (fun j hj => if_pos hj), by
    rcases Nat.eq_zero_or_pos u2 with q | q
    · exact Or.inl q
    · rcases ht2 with q2 | q2
      · exact Or.inl q2
      · right
        show (if u2 - 1 < u2 then g (u2 - 1) else f (u2 - 1)) ≠ 0
        rw [if_pos (by omega)]; exact q2⟩, fr⟩
/-- a row of 16 words as a number, or minus it -/
def cwv (f : Nat → Nat) (neg : Bool) : Nat := cond neg ((2 ^ 512 - wv f 16) % 2 ^ 512) (wv f 16)
set_option maxHeartbeats 4000000 in
set_option maxRecDepth 100000 in
theorem p_copyWords {d n a b c v : Nat} {f : Nat → Nat} {neg : Bool} {h : zH} (hw : WD h a b v) (h_c : h c = aN 16 f) (hf : wb f) (hne : c ≠ b) (hd : 1 ≤ d) :
    zM yX7_copyWords cX7_copyWords 8 none d 0 0 [.ref a, .ref c, .int (iI (bz neg))] h n (fun r h' n' => r = none ∧ n' = n ∧ WD h' a b (cwv f neg) ∧ zFr [a, b] h h') := by
  obtain ⟨u, g0, h_a, h_b, hg0, hu, hv, ht⟩ := hw
  have ne_b_a := wne h_a h_b
  have ne_a_b := ne_b_a.symm
  have ne_c_b := hne
  have ne_c_a := wne h_a h_c
  refine zM_of zyX7_copyWords rfl (Nat.le_of_ble_eq_true rfl) (fun X hX => ?_)
  have fr : zFr [a, b] h h := zFr.rf
  have loop : ∀ (m k cr : Nat) (i : Int) (g : Nat → Nat) (H : zH), k + m = 16 → i = k → wb g → cr ≤ 1 → wv g k + cr * 2 ^ (32 * k) = cond neg (2 ^ (32 * k) - wv f k) (wv f k) → H a = oWide b u → H b = aN 16 g → H c = aN 16 f → zFr [a, b] h H → (zV X (fun r h' n' => r = none ∧ n' = n ∧ WD h' a b (cwv f neg) ∧ zFr [a, b] h h') cX7_copyWords 8 RX7 none d 0 0 13 [(0, .ref a), (1, .ref c), (2, .int (iI (bz neg))), (3, .long (jL (cr:Nat))), (5, .int (iI i))] [] H n 0 0) := by
    intro m
    induction m with
    | zero =>
      intro k cr i g H hk ei hg hc inv h_a h_b h_c fr
      have hku : k = 16 := by omega
      subst hku
      refine v_iload dX7_copyWords_13 rfl ?_
      refine v_bipush (iI 16) dX7_copyWords_15 rfl ?_
      refine w_icmp_ge 75 dX7_copyWords_17 (by decide) (by omega) (by decide) (fun c1 => ?_) (fun c1 => ?_)
      · skip
        refine v_aload_n dX7_copyWords_75 rfl ?_
        refine v_bipush (iI 16) dX7_copyWords_76 rfl ?_
        refine v_put (fs' := [.ref b, .int (iI 16)]) fX7_13 dX7_copyWords_78 h_a (by decide) (Nat.le_of_ble_eq_true rfl) rfl rfl rfl (fun H1 eH1 => ?_)
        have h_a : H1 a = oWide b 16 := zf_same eH1
        have h_b := (zf_ne eH1 ne_b_a).trans h_b
        have h_c := (zf_ne eH1 ne_c_a).trans h_c
        have fr := fr.put eH1 (by simp)
        refine v_aload_n dX7_copyWords_81 rfl ?_
        refine v_cV (av := []) (st := []) zyX7_trim lX7_17 h_a rfl (p_trim (d := 0) (u0 := 16) h_a h_b hg (by decide)) dX7_copyWords_82 rfl rfl (Nat.le_of_ble_eq_true rfl) (by omega) (Nat.le_of_ble_eq_true rfl) (Nat.le_of_ble_eq_true rfl) (Or.inl (fun _ _ _ q => ZN q)) (fun r9 H9 n9 q9 => ?_)
        obtain ⟨rfl, q9n, hw9, fr9⟩ := q9
        have q9n := q9n.symm
        subst q9n
        have h1 := wv_lt hg 16
        have h2 := wv_lt hf 16
        have e : wv g 16 = cwv f neg := by
          rw [show 32 * 16 = 512 from rfl] at h1 h2 inv
          unfold cwv
          rcases Bool.eq_false_or_eq_true neg with q | q
          · rw [q, cond_true] at inv ⊢
            omega
          · rw [q, cond_false] at inv ⊢
            omega
        rw [e] at hw9
        exact v_vret dX7_copyWords_85 trivial (Nat.le_of_ble_eq_true rfl) (Nat.le_of_ble_eq_true rfl) ⟨rfl, rfl, hw9, fr.tr fr9 (by simp)⟩
      · exact absurd c1 (by omega)
    | succ m ih =>
      intro k cr i g H hk ei hg hc inv h_a h_b h_c fr
      have hfk := hf k
      have hP := p_pos (32 * k)
      have hF := wv_lt hf k
      refine v_iload dX7_copyWords_13 rfl ?_
      refine v_bipush (iI 16) dX7_copyWords_15 rfl ?_
      refine w_icmp_ge 75 dX7_copyWords_17 (by decide) (by omega) (by decide) (fun c1 => ?_) (fun c1 => ?_)
      · exact absurd c1 (by omega)
      · skip
        refine v_iload dX7_copyWords_20 rfl ?_
        refine v_aload_n dX7_copyWords_22 rfl ?_
        refine v_alen (v := iI 16) dX7_copyWords_23 h_c rfl ?_
        refine w_icmp_ge 75 dX7_copyWords_24 (by decide) (by omega) (by decide) (fun c2 => ?_) (fun c2 => ?_)
        · exact absurd c2 (by omega)
        · have join : ∀ x : Nat, x < 4294967296 → x = cond neg (4294967295 - f k) (f k) → ∀ y : Int, y % 4294967296 = (x : Int) → (zV X (fun r h' n' => r = none ∧ n' = n ∧ WD h' a b (cwv f neg) ∧ zFr [a, b] h h') cX7_copyWords 8 RX7 none d 0 0 44 [(0, .ref a), (1, .ref c), (2, .int (iI (bz neg))), (3, .long (jL (cr:Nat))), (5, .int (iI i))] [.int (iI y)] H n 0 0) := by
            intro x hx ex y ey
            refine w_low dX7_copyWords_44 kX7_26 dX7_copyWords_45 dX7_copyWords_48 ?_
            refine v_lload_n dX7_copyWords_49 rfl ?_
            refine w_ladd dX7_copyWords_50 ?_
            refine w_el (x + cr:Nat) (by omega) ?_
            refine v_lstore (i := 6) (lv' := [(6, .long (jL (x + cr:Nat))), (0, .ref a), (1, .ref c), (2, .int (iI (bz neg))), (3, .long (jL (cr:Nat))), (5, .int (iI i))]) dX7_copyWords_51 (by decide) rfl ?_
            refine v_aload_n dX7_copyWords_53 rfl ?_
            refine v_get fX7_9 dX7_copyWords_54 h_a (by decide) rfl ?_
            refine v_iload dX7_copyWords_57 rfl ?_
            refine v_lload dX7_copyWords_59 rfl ?_
            refine w_l2i dX7_copyWords_61 ?_
            refine w_nast dX7_copyWords_62 h_b k (by omega) (by omega) (by decide) ((x + cr) % 4294967296) (by omega) (fun H1 eH1 => ?_)
            obtain ⟨F1, eF1⟩ : ∃ zz9, zz9 = zup g k ((x + cr) % 4294967296) := ⟨_, rfl⟩
            rw [← eF1] at eH1
            have h_b : H1 b = aN 16 F1 := zf_same eH1
            have h_a := (zf_ne eH1 ne_a_b).trans h_a
            have h_c := (zf_ne eH1 ne_c_b).trans h_c
            have fr := fr.put eH1 (by simp)
            refine v_lload dX7_copyWords_63 rfl ?_
            refine v_bipush (iI 32) dX7_copyWords_65 rfl ?_
            refine w_lushr dX7_copyWords_67 32 4294967296 rfl rfl (by decide) (by omega) ?_
            refine v_lstore_n (i := 3) (lv' := [(3, .long (jL ((x + cr:Nat) / 4294967296))), (6, .long (jL (x + cr:Nat))), (0, .ref a), (1, .ref c), (2, .int (iI (bz neg))), (5, .int (iI i))]) dX7_copyWords_68 rfl (by decide) rfl ?_
            refine w_iinc (lv' := [(5, .int (iI (i + 1))), (3, .long (jL ((x + cr:Nat) / 4294967296))), (6, .long (jL (x + cr:Nat))), (0, .ref a), (1, .ref c), (2, .int (iI (bz neg)))]) dX7_copyWords_69 rfl (by decide) rfl ?_
            refine v_goto 13 dX7_copyWords_72 (by decide) ?_
            refine w_sub (lv2 := [(0, .ref a), (1, .ref c), (2, .int (iI (bz neg))), (3, .long (jL ((x + cr:Nat) / 4294967296))), (5, .int (iI (i + 1)))]) [3, 4, 5, 1, 0] rfl ?_
            refine ih (k + 1) ((x + cr) / 4294967296) (i + 1) F1 _ (by omega) (by omega) (by rw [eF1]; exact wb_up hg (by omega)) (by omega) ?_ h_a h_b h_c fr
            have e9 : wv F1 (k + 1) + (x + cr) / 4294967296 * 2 ^ (32 * (k + 1)) = wv g k + cr * 2 ^ (32 * k) + x * 2 ^ (32 * k) := by
              rw [eF1, wv_up1, p32]
              have := congrArg (· * 2 ^ (32 * k)) (Nat.div_add_mod (x + cr) 4294967296)
              simp only [Nat.add_mul] at this
              rw [← Nat.mul_assoc, Nat.mul_comm ((x + cr) / 4294967296) 4294967296]
              omega
            rw [e9, inv]
            have e8 : wv f (k + 1) = wv f k + f k * 2 ^ (32 * k) := rfl
            rcases Bool.eq_false_or_eq_true neg with q | q
            · rw [q, cond_true] at ex
              rw [q, cond_true, cond_true, p32, ex, Nat.sub_mul, e8]
              have : f k * 2 ^ (32 * k) ≤ 4294967295 * 2 ^ (32 * k) := Nat.mul_le_mul_right _ (by omega)
              omega
            · rw [q, cond_false] at ex
              rw [q, cond_false, cond_false, ex, e8]
          refine v_iload_n dX7_copyWords_27 rfl ?_
          refine w_ifb_eq 40 dX7_copyWords_28 (by decide) (fun c3 => ?_) (fun c3 => ?_)
          · skip
            refine v_aload_n dX7_copyWords_40 rfl ?_
            refine v_iload dX7_copyWords_41 rfl ?_
            refine w_nald dX7_copyWords_43 h_c k (by omega) (by omega) (by decide) ?_
            exact join (f k) hfk (by rw [c3, cond_false]) _ (by omega)
          · skip
            refine v_aload_n dX7_copyWords_31 rfl ?_
            refine v_iload dX7_copyWords_32 rfl ?_
            refine w_nald dX7_copyWords_34 h_c k (by omega) (by omega) (by decide) ?_
            refine w_not dX7_copyWords_35 dX7_copyWords_36 ?_
            refine v_goto 44 dX7_copyWords_37 (by decide) ?_
            exact join (4294967295 - f k) (by omega) (by rw [c3, cond_true]) _ (by omega)
  refine v_iload_n dX7_copyWords_0 rfl ?_
  refine w_ifb_eq 8 dX7_copyWords_1 (by decide) (fun c9 => ?_) (fun c9 => ?_)
  · skip
    refine v_lconst (jL 0) dX7_copyWords_8 rfl ?_
    refine v_lstore_n (i := 3) (lv' := [(3, .long (jL 0)), (0, .ref a), (1, .ref c), (2, .int (iI (bz neg)))]) dX7_copyWords_9 rfl (by decide) rfl ?_
    refine v_iconst (iI 0) dX7_copyWords_10 rfl ?_
    refine v_istore (i := 5) (lv' := [(5, .int (iI 0)), (3, .long (jL 0)), (0, .ref a), (1, .ref c), (2, .int (iI (bz neg)))]) dX7_copyWords_11 (by decide) rfl ?_
    refine w_sub (lv2 := [(0, .ref a), (1, .ref c), (2, .int (iI (bz neg))), (3, .long (jL 0)), (5, .int (iI 0))]) [2, 3, 4, 1, 0] rfl ?_
    exact loop 16 0 0 0 g0 h (by decide) rfl hg0 (by decide) (by rw [c9]; simp [wv]) h_a h_b h_c fr
  · skip
    refine v_lconst (jL 1) dX7_copyWords_4 rfl ?_
    refine v_goto 9 dX7_copyWords_5 (by decide) ?_
    refine v_lstore_n (i := 3) (lv' := [(3, .long (jL 1)), (0, .ref a), (1, .ref c), (2, .int (iI (bz neg)))]) dX7_copyWords_9 rfl (by decide) rfl ?_
    refine v_iconst (iI 0) dX7_copyWords_10 rfl ?_
    refine v_istore (i := 5) (lv' := [(5, .int (iI 0)), (3, .long (jL 1)), (0, .ref a), (1, .ref c), (2, .int (iI (bz neg)))]) dX7_copyWords_11 (by decide) rfl ?_
    refine w_sub (lv2 := [(0, .ref a), (1, .ref c), (2, .int (iI (bz neg))), (3, .long (jL 1)), (5, .int (iI 0))]) [2, 3, 4, 1, 0] rfl ?_
    exact loop 16 0 1 0 g0 h (by decide) rfl hg0 (by decide) (by rw [c9]; simp [wv]) h_a h_b h_c fr
