/-! Quires of the class: V is what the 16 words say -/
abbrev oQuire (b : Nat) (na : Bool) : zC := .inr (3, [.ref b, .int (iI (bz na))])
theorem cne {h : zH} {a b i j : Nat} {fs gs : List Value} (h1 : h a = .inr (i, fs)) (h2 : h b = .inr (j, gs)) (hij : i ≠ j) : b ≠ a := fun e => by
  rw [e, h1] at h2
  injection h2 with e2
  injection e2 with e3
  exact hij e3
def QD (h : zH) (a b : Nat) (na : Bool) (V : Nat) : Prop := ∃ f : Nat → Nat, h a = oQuire b na ∧ h b = aN 16 f ∧ wb f ∧ wv f 16 = V
theorem QD.fr {h h' : zH} {a b V : Nat} {na : Bool} {S : List Nat} (q : QD h a b na V) (f : zFr S h h') (ha : a ∉ S) (hb : b ∉ S) : QD h' a b na V := by
  obtain ⟨g, h1, h2, h3⟩ := q
  exact ⟨g, (f a ha).trans h1, (f b hb).trans h2, h3⟩
theorem QD.lt {h : zH} {a b V : Nat} {na : Bool} (q : QD h a b na V) : V < 2 ^ 512 := by
  obtain ⟨g, h1, h2, h3, rfl⟩ := q
  exact wv_lt h3 16
set_option maxHeartbeats 4000000 in
set_option maxRecDepth 100000 in
theorem p_empty {d n a b V : Nat} {na : Bool} {h : zH} (hq : QD h a b na V) :
    zM yX3_empty cX3_empty 2 none d 0 0 [.ref a] h n (fun r h' n' => r = none ∧ n' = n ∧ QD h' a b false 0 ∧ zFr [a, b] h h') := by
  obtain ⟨f, h_a, h_b, hf, -⟩ := hq
  have ne_b_a := wne h_a h_b
  have ne_a_b := ne_b_a.symm
  refine zM_of zyX3_empty rfl (Nat.le_of_ble_eq_true rfl) (fun X hX => ?_)
  have fr : zFr [a, b] h h := zFr.rf
  refine v_aload_n dX3_empty_0 rfl ?_
  refine v_iconst (iI 0) dX3_empty_1 rfl ?_
  refine w_ei (bz false) rfl ?_
  refine v_put (fs' := [.ref b, .int (iI (bz false))]) fX3_13 dX3_empty_2 h_a (by decide) (Nat.le_of_ble_eq_true rfl) bz_n bz_f rfl (fun H1 eH1 => ?_)
  have h_a : H1 a = oQuire b false := zf_same eH1
  have h_b := (zf_ne eH1 ne_b_a).trans h_b
  have fr := fr.put eH1 (by simp)
  refine v_iconst (iI 0) dX3_empty_5 rfl ?_
  refine v_istore_n (i := 1) (lv' := [(1, .int (iI 0)), (0, .ref a)]) dX3_empty_6 rfl (by decide) rfl ?_
  refine w_sub (lv2 := [(0, .ref a), (1, .int (iI 0))]) [1, 0] rfl ?_
  have loop : ∀ (m k : Nat) (i : Int) (g : Nat → Nat) (H : zH), k + m = 16 → i = k → wb g → wv g k = 0 → H a = oQuire b false → H b = aN 16 g → zFr [a, b] h H → (zV X (fun r h' n' => r = none ∧ n' = n ∧ QD h' a b false 0 ∧ zFr [a, b] h h') cX3_empty 2 RX3 none d 0 0 7 [(0, .ref a), (1, .int (iI i))] [] H n 0 0) := by
    intro m
    induction m with
    | zero =>
      intro k i g H hk ei hg inv h_a h_b fr
      refine v_iload_n dX3_empty_7 rfl ?_
      refine v_bipush (iI 16) dX3_empty_8 rfl ?_
      refine w_icmp_ge 26 dX3_empty_10 (by decide) (by omega) (by decide) (fun c1 => ?_) (fun c1 => ?_)
      · skip
        exact v_vret dX3_empty_26 trivial (Nat.le_of_ble_eq_true rfl) (Nat.le_of_ble_eq_true rfl) ⟨rfl, rfl, ⟨g, h_a, h_b, hg, by rw [show (16 : Nat) = k from by omega]; exact inv⟩, fr⟩
      · exact absurd c1 (by omega)
    | succ m ih =>
      intro k i g H hk ei hg inv h_a h_b fr
      refine v_iload_n dX3_empty_7 rfl ?_
      refine v_bipush (iI 16) dX3_empty_8 rfl ?_
      refine w_icmp_ge 26 dX3_empty_10 (by decide) (by omega) (by decide) (fun c1 => ?_) (fun c1 => ?_)
      · exact absurd c1 (by omega)
      · skip
        refine v_aload_n dX3_empty_13 rfl ?_
        refine v_get fX3_9 dX3_empty_14 h_a (by decide) rfl ?_
        refine v_iload_n dX3_empty_17 rfl ?_
        refine v_iconst (iI 0) dX3_empty_18 rfl ?_
        refine w_nast dX3_empty_19 h_b k (by omega) (by omega) (by decide) 0 rfl (fun H1 eH1 => ?_)
        obtain ⟨F1, eF1⟩ : ∃ zz9, zz9 = zup g k 0 := ⟨_, rfl⟩
        rw [← eF1] at eH1
        have h_b : H1 b = aN 16 F1 := zf_same eH1
        have h_a := (zf_ne eH1 ne_a_b).trans h_a
        have fr := fr.put eH1 (by simp)
        refine w_iinc (lv' := [(1, .int (iI (i + 1))), (0, .ref a)]) dX3_empty_20 rfl (by decide) rfl ?_
        refine v_goto 7 dX3_empty_23 (by decide) ?_
        refine w_sub (lv2 := [(0, .ref a), (1, .int (iI (i + 1)))]) [1, 0] rfl ?_
        exact ih (k + 1) (i + 1) F1 _ (by omega) (by omega) (by rw [eF1]; exact wb_up hg (by decide)) (by rw [eF1, wv_up1, inv]; simp) h_a h_b fr
  exact loop 16 0 0 f _ rfl rfl hf rfl h_a h_b fr
theorem part_lo {p s i : Nat} (h : 32 * i ≤ s) : wat (p * 2 ^ s) i = p * 2 ^ (s - 32 * i) % 4294967296 := by
  unfold wat
  rw [show s = (s - 32 * i) + 32 * i from by omega, Nat.pow_add, ← Nat.mul_assoc, Nat.mul_div_cancel _ (p_pos _), Nat.add_sub_cancel]
theorem part_hi {p s i : Nat} (h : s ≤ 32 * i) : wat (p * 2 ^ s) i = p / 2 ^ (32 * i - s) % 4294967296 := by
  unfold wat
  rw [show 32 * i = (32 * i - s) + s from by omega, Nat.pow_add, Nat.mul_div_mul_right _ _ (p_pos _), Nat.add_sub_cancel]
set_option maxHeartbeats 4000000 in
set_option maxRecDepth 100000 in
theorem p_partOf {d n p s i : Nat} {lo : Int} {h : zH} (hp : p < 9223372036854775808) (hs : s < 10000) (hi : i < 100) (hlo : lo = 32 * (i : Int) - s) :
    zM yX3_partOf cX3_partOf 3 (some .long) d 0 0 [.long (jL (p:Nat)), .int (iI lo)] h n (fun r h' n' => r = some (.long (jL (wat (p * 2 ^ s) i : Nat))) ∧ n' = n ∧ h' = h) := by
  refine zM_of zyX3_partOf rfl (Nat.le_of_ble_eq_true rfl) (fun X hX => ?_)
  refine v_iload_n dX3_partOf_0 rfl ?_
  refine v_bipush (iI (-32)) dX3_partOf_1 rfl ?_
  refine w_icmp_le 12 dX3_partOf_3 (by decide) (by omega) (by decide) (fun c1 => ?_) (fun c1 => ?_)
  · have e : wat (p * 2 ^ s) i = 0 := by
      rw [part_lo (by omega), show s - 32 * i = 32 + (s - 32 * i - 32) from by omega, Nat.pow_add, ← Nat.mul_assoc, Nat.mul_right_comm, Nat.mul_mod_left]
    refine v_lconst (jL 0) dX3_partOf_12 rfl ?_
    exact v_lret dX3_partOf_13 trivial (Nat.le_of_ble_eq_true rfl) (Nat.le_of_ble_eq_true rfl) ⟨by rw [e]; rfl, rfl, rfl⟩
  · skip
    refine v_iload_n dX3_partOf_6 rfl ?_
    refine v_bipush (iI 64) dX3_partOf_7 rfl ?_
    refine w_icmp_lt 14 dX3_partOf_9 (by decide) (by omega) (by decide) (fun c2 => ?_) (fun c2 => ?_)
    · skip
      refine v_iload_n dX3_partOf_14 rfl ?_
      refine w_if_ge 25 dX3_partOf_15 (by decide) (by omega) (fun c3 => ?_) (fun c3 => ?_)
      · have hP : p / 2 ^ (32 * i - s) ≤ p := Nat.div_le_self _ _
        refine v_lload_n dX3_partOf_25 rfl ?_
        refine v_iload_n dX3_partOf_26 rfl ?_
        refine w_lushr dX3_partOf_27 (32 * i - s) (2 ^ (32 * i - s)) rfl (by omega) (by omega) (by omega) ?_
        refine w_el (p / 2 ^ (32 * i - s):Nat) (by rw [ipw, Int.natCast_ediv]) ?_
        refine v_ldc2_w (v := jL 4294967295) kX3_35 dX3_partOf_28 ?_
        refine w_landm dX3_partOf_31 32 4294967296 rfl (by decide) rfl ?_
        exact v_lret dX3_partOf_32 trivial (Nat.le_of_ble_eq_true rfl) (Nat.le_of_ble_eq_true rfl) ⟨by rw [part_hi (by omega)]; rfl, rfl, rfl⟩
      · skip
        refine v_lload_n dX3_partOf_18 rfl ?_
        refine v_iload_n dX3_partOf_19 rfl ?_
        refine w_ineg dX3_partOf_20 ?_
        refine w_lshl dX3_partOf_21 (s - 32 * i) (2 ^ (s - 32 * i)) rfl (by omega) (by omega) ?_
        refine w_el (p * 2 ^ (s - 32 * i):Nat) (by rw [ipw, Int.natCast_mul]) ?_
        refine v_goto 28 dX3_partOf_22 (by decide) ?_
        refine v_ldc2_w (v := jL 4294967295) kX3_35 dX3_partOf_28 ?_
        refine w_landm dX3_partOf_31 32 4294967296 rfl (by decide) rfl ?_
        exact v_lret dX3_partOf_32 trivial (Nat.le_of_ble_eq_true rfl) (Nat.le_of_ble_eq_true rfl) ⟨by rw [part_lo (by omega)]; rfl, rfl, rfl⟩
    · have e : wat (p * 2 ^ s) i = 0 := by
        have : p / 2 ^ (32 * i - s) = 0 := Nat.div_eq_of_lt (Nat.lt_of_lt_of_le hp (Nat.pow_le_pow_right (show 0 < 2 by decide) (show 63 ≤ 32 * i - s by omega)))
        rw [part_hi (by omega), this]
      refine v_lconst (jL 0) dX3_partOf_12 rfl ?_
      exact v_lret dX3_partOf_13 trivial (Nat.le_of_ble_eq_true rfl) (Nat.le_of_ble_eq_true rfl) ⟨by rw [e]; rfl, rfl, rfl⟩
theorem add_step {G c P F W fk wk q r : Int} (h1 : G + c * P = F + W) (e : 4294967296 * q + r = fk + wk + c) : G + r * P + q * (4294967296 * P) = (F + fk * P) + (W + wk * P) := by
  have h2 := congrArg (· * P) e
  simp only [Int.add_mul] at h2
  have e1 : q * (4294967296 * P) = 4294967296 * q * P := by rw [← Int.mul_assoc, Int.mul_comm q]
  rw [e1]
  omega
/-- V and a product, within 512 bits -/
def qad (V : Nat) (down : Bool) (T : Nat) : Nat := (((V : Int) + sgnd down T) % (2 ^ 512 : Nat)).toNat
theorem sgnd_mul (b : Bool) (x y : Nat) : sgnd b (x * y) = sgnd b x * (y : Int) := by cases b <;> simp [sgnd, Int.neg_mul]
theorem sgnd_add (b : Bool) (x y : Nat) : sgnd b (x + y) = sgnd b x + sgnd b y := by cases b <;> simp [sgnd] <;> omega
set_option maxHeartbeats 4000000 in
set_option maxRecDepth 100000 in
theorem p_bring {d n a b e1 e2 V s1 s2 sh : Nat} {na n1 n2 m1 m2 aw : Bool} {x1 x2 : Int} {h : zH} (hq : QD h a b na V) (h_e1 : h e1 = oPosit n1 m1 (s1:Nat) x1) (h_e2 : h e2 = oPosit n2 m2 (s2:Nat) x2) (hd : 1 ≤ d) (hs1 : s1 < 2147483648) (hs2 : s2 < 2147483648) (hx1 : -1000 ≤ x1 ∧ x1 ≤ 1000) (hx2 : -1000 ≤ x2 ∧ x2 ≤ 1000) (hsh : x1 + x2 + 240 = (sh : Int)) :
    zM yX3_bring cX3_bring 15 none d 0 0 [.ref a, .ref e1, .ref e2, .int (iI (bz aw))] h n (fun r h' n' => r = none ∧ n' = n ∧ QD h' a b (na || n1 || n2) (cond (na || n1 || n2) V (qad V (aw ^^ m1 ^^ m2) (s1 * s2 * 2 ^ sh))) ∧ zFr [a, b] h h') := by
  obtain ⟨f, h_a, h_b, hf, hV⟩ := hq
  have ne_b_a := wne h_a h_b
  have ne_a_b := ne_b_a.symm
  have ne_e1_a : e1 ≠ a := cne h_a h_e1 (by decide)
  have ne_e2_a : e2 ≠ a := cne h_a h_e2 (by decide)
  have ne_e1_b : e1 ≠ b := (wne h_e1 h_b).symm
  have ne_e2_b : e2 ≠ b := (wne h_e2 h_b).symm
  have hp : s1 * s2 < 9223372036854775808 := Nat.lt_of_le_of_lt (Nat.mul_le_mul (show s1 ≤ 2147483647 by omega) (show s2 ≤ 2147483647 by omega)) (by decide)
  obtain ⟨p, ep⟩ : ∃ p, s1 * s2 = p := ⟨_, rfl⟩
  obtain ⟨T, eT⟩ : ∃ T, p * 2 ^ sh = T := ⟨_, rfl⟩
  obtain ⟨dn, edn⟩ : ∃ dn, (aw ^^ m1 ^^ m2) = dn := ⟨_, rfl⟩
  rw [ep] at hp
  refine zM_of zyX3_bring rfl (Nat.le_of_ble_eq_true rfl) (fun X hX => ?_)
  have fr : zFr [a, b] h h := zFr.rf
  have loop : (na || n1 || n2) = false → ∀ (m k : Nat) (c i : Int) (g : Nat → Nat) (H : zH), k + m = 16 → i = k → -1 ≤ c → c ≤ 1 → (dn = true → c ≤ 0) → (dn = false → 0 ≤ c) → wb g → (∀ j, k ≤ j → g j = f j) → (wv g k : Int) + c * (2 ^ (32 * k) : Nat) = wv f k + sgnd dn (T % 2 ^ (32 * k)) → H a = oQuire b false → H b = aN 16 g → zFr [a, b] h H → (zV X (fun r h' n' => r = none ∧ n' = n ∧ QD h' a b (na || n1 || n2) (cond (na || n1 || n2) V (qad V (aw ^^ m1 ^^ m2) (s1 * s2 * 2 ^ sh))) ∧ zFr [a, b] h h') cX3_bring 15 RX3 none d 0 0 83 [(0, .ref a), (4, .long (jL (p:Nat))), (6, .int (iI (sh:Nat))), (7, .int (iI (bz dn))), (8, .long (jL c)), (10, .int (iI i))] [] H n 0 0) := by
    intro hnn m
    induction m with
    | zero =>
      intro k c i g H hk ei hc1 hc2 hc3 hc4 hg hgf inv h_a h_b fr
      have hk16 : k = 16 := by omega
      subst hk16
      refine v_iload dX3_bring_83 rfl ?_
      refine v_bipush (iI 16) dX3_bring_85 rfl ?_
      refine w_icmp_ge 159 dX3_bring_87 (by decide) (by omega) (by decide) (fun c1 => ?_) (fun c1 => ?_)
      · skip
        exact v_vret dX3_bring_159 trivial (Nat.le_of_ble_eq_true rfl) (Nat.le_of_ble_eq_true rfl) ⟨rfl, rfl, by
          rw [hnn, cond_false, ep, eT, edn]
          refine ⟨g, h_a, h_b, hg, ?_⟩
          have h1 := wv_lt hg 16
          rw [hV, show 32 * 16 = 512 from rfl] at inv
          rw [show 32 * 16 = 512 from rfl] at h1
          unfold qad
          have hT := Nat.div_add_mod T (2 ^ 512)
          rcases Bool.eq_false_or_eq_true dn with z | z
          · rw [z] at inv ⊢
            show _ = (((V : Int) + -(T : Int)) % (2 ^ 512 : Nat)).toNat
            have inv : (wv g 16 : Int) + c * (2 ^ 512 : Nat) = V + -((T % 2 ^ 512 : Nat) : Int) := inv
            omega
          · rw [z] at inv ⊢
            show _ = (((V : Int) + (T : Int)) % (2 ^ 512 : Nat)).toNat
            have inv : (wv g 16 : Int) + c * (2 ^ 512 : Nat) = V + ((T % 2 ^ 512 : Nat) : Int) := inv
            omega, fr⟩
      · exact absurd c1 (by omega)
    | succ m ih =>
      intro k c i g H hk ei hc1 hc2 hc3 hc4 hg hgf inv h_a h_b fr
      have hgk := hgf k (Nat.le_refl k)
      have hfk := hf k
      have hwk := wat_lt T k
      refine v_iload dX3_bring_83 rfl ?_
      refine v_bipush (iI 16) dX3_bring_85 rfl ?_
      refine w_icmp_ge 159 dX3_bring_87 (by decide) (by omega) (by decide) (fun c1 => ?_) (fun c1 => ?_)
      · exact absurd c1 (by omega)
      · have rest : ∀ y : Int, y = sgnd dn (wat T k) → (zV X (fun r h' n' => r = none ∧ n' = n ∧ QD h' a b (na || n1 || n2) (cond (na || n1 || n2) V (qad V (aw ^^ m1 ^^ m2) (s1 * s2 * 2 ^ sh))) ∧ zFr [a, b] h h') cX3_bring 15 RX3 none d 0 0 130 [(0, .ref a), (4, .long (jL (p:Nat))), (6, .int (iI (sh:Nat))), (7, .int (iI (bz dn))), (8, .long (jL c)), (10, .int (iI i))] [.long (jL y), .long (jL (f k:Nat))] H n 0 0) := by
          intro y ey
          have hy : (dn = true → -4294967296 < y ∧ y ≤ 0) ∧ (dn = false → 0 ≤ y ∧ y < 4294967296) := by
            constructor
            · intro z; rw [z] at ey; have ey : y = -((wat T k : Nat) : Int) := ey; omega
            · intro z; rw [z] at ey; have ey : y = ((wat T k : Nat) : Int) := ey; omega
          have hD0 : -4294967296 ≤ (f k : Int) + y + c ∧ (f k : Int) + y + c < 8589934592 ∧ (dn = true → (f k : Int) + y + c < 4294967296) ∧ (dn = false → 0 ≤ (f k : Int) + y + c) := by
            rcases Bool.eq_false_or_eq_true dn with z | z
            · have := hy.1 z; have := hc3 z
              exact ⟨by omega, by omega, fun _ => by omega, fun z2 => by rw [z] at z2; exact absurd z2 (by decide)⟩
            · have := hy.2 z; have := hc4 z
              exact ⟨by omega, by omega, fun z2 => by rw [z] at z2; exact absurd z2 (by decide), fun _ => by omega⟩
          refine w_ladd dX3_bring_130 ?_
          refine v_lload dX3_bring_131 rfl ?_
          refine w_ladd dX3_bring_133 ?_
          obtain ⟨D, eD⟩ : ∃ yy9 : Int, ((f k:Nat) + y) + c = yy9 := ⟨_, rfl⟩
          rw [eD]
          rw [eD] at hD0
          obtain ⟨hD1, hD2, hD3, hD4⟩ := hD0
          refine v_lstore (i := 13) (lv' := [(13, .long (jL D)), (0, .ref a), (4, .long (jL (p:Nat))), (6, .int (iI (sh:Nat))), (7, .int (iI (bz dn))), (8, .long (jL c)), (10, .int (iI i))]) dX3_bring_134 (by decide) rfl ?_
          refine v_aload_n dX3_bring_136 rfl ?_
          refine v_get fX3_9 dX3_bring_137 h_a (by decide) rfl ?_
          refine v_iload dX3_bring_140 rfl ?_
          refine v_lload dX3_bring_142 rfl ?_
          refine w_l2i dX3_bring_144 ?_
          refine w_nast dX3_bring_145 h_b k (by omega) (by omega) (by decide) ((D % 4294967296).toNat) (by omega) (fun H1 eH1 => ?_)
          obtain ⟨F1, eF1⟩ : ∃ zz9, zz9 = zup g k ((D % 4294967296).toNat) := ⟨_, rfl⟩
          rw [← eF1] at eH1
          have h_b : H1 b = aN 16 F1 := zf_same eH1
          have h_a := (zf_ne eH1 ne_a_b).trans h_a
          have fr := fr.put eH1 (by simp)
          refine v_lload dX3_bring_146 rfl ?_
          refine v_bipush (iI 32) dX3_bring_148 rfl ?_
          refine w_lshr dX3_bring_150 32 4294967296 rfl rfl (by decide) (by omega) ?_
          refine v_lstore (i := 8) (lv' := [(8, .long (jL (D / 4294967296))), (13, .long (jL D)), (0, .ref a), (4, .long (jL (p:Nat))), (6, .int (iI (sh:Nat))), (7, .int (iI (bz dn))), (10, .int (iI i))]) dX3_bring_151 (by decide) rfl ?_
          refine w_iinc (lv' := [(10, .int (iI (i + 1))), (8, .long (jL (D / 4294967296))), (13, .long (jL D)), (0, .ref a), (4, .long (jL (p:Nat))), (6, .int (iI (sh:Nat))), (7, .int (iI (bz dn)))]) dX3_bring_153 rfl (by decide) rfl ?_
          refine v_goto 83 dX3_bring_156 (by decide) ?_
          refine w_sub (lv2 := [(0, .ref a), (4, .long (jL (p:Nat))), (6, .int (iI (sh:Nat))), (7, .int (iI (bz dn))), (8, .long (jL (D / 4294967296))), (10, .int (iI (i + 1)))]) [3, 4, 5, 6, 1, 0] rfl ?_
          refine ih (k + 1) (D / 4294967296) (i + 1) F1 _ (by omega) (by omega) (by omega) (by omega) (fun z => by have := hD3 z; omega) (fun z => by have := hD4 z; omega) (by rw [eF1]; exact wb_up hg (by omega)) (fun j hj => by rw [eF1, zup_ne _ _ (by omega)]; exact hgf j (by omega)) ?_ h_a h_b fr
          rw [eF1, wv_up1, mod_next, p32, sgnd_add, Nat.mul_comm (2 ^ (32 * k)) (wat T k), sgnd_mul]
          show _ = ((wv f k + f k * 2 ^ (32 * k) : Nat) : Int) + _
          rw [Int.natCast_add, Int.natCast_add, Int.natCast_mul, Int.natCast_mul, Int.natCast_mul, ← ey]
          exact add_step inv (by rw [eD]; omega)
        refine v_lload dX3_bring_90 rfl ?_
        refine v_bipush (iI 32) dX3_bring_92 rfl ?_
        refine v_iload dX3_bring_94 rfl ?_
        refine w_imul dX3_bring_96 ?_
        refine v_iload dX3_bring_97 rfl ?_
        refine w_isub dX3_bring_99 ?_
        refine v_cS (av := [.long (jL (p:Nat)), .int (iI ((32 * i) - (sh:Nat)))]) (st := []) zyX3_partOf lX3_31 (p_partOf (d := 0) (s := sh) (i := k) hp (by omega) (by omega) (by omega)) dX3_bring_100 rfl rfl (Nat.le_of_ble_eq_true rfl) (by omega) (Nat.le_of_ble_eq_true rfl) (Nat.le_of_ble_eq_true rfl) (Or.inl (fun _ _ _ q => ZN q)) (fun r9 K1 n9 q9 => ?_)
        obtain ⟨rfl, q9n, q9h⟩ := q9
        have q9n := q9n.symm
        subst q9n
        have q9h := q9h.symm
        subst q9h
        rw [eT]
        refine v_lstore (i := 11) (lv' := [(11, .long (jL (wat T k:Nat))), (0, .ref a), (4, .long (jL (p:Nat))), (6, .int (iI (sh:Nat))), (7, .int (iI (bz dn))), (8, .long (jL c)), (10, .int (iI i))]) dX3_bring_103 (by decide) rfl ?_
        refine v_aload_n dX3_bring_105 rfl ?_
        refine v_get fX3_9 dX3_bring_106 h_a (by decide) rfl ?_
        refine v_iload dX3_bring_109 rfl ?_
        refine w_nald dX3_bring_111 h_b k (by omega) (by omega) (by decide) ?_
        refine w_low dX3_bring_112 kX3_35 dX3_bring_113 dX3_bring_116 ?_
        refine w_el (f k:Nat) (by rw [hgk]; omega) ?_
        refine v_iload dX3_bring_117 rfl ?_
        refine w_ifb_eq 128 dX3_bring_119 (by decide) (fun c2 => ?_) (fun c2 => ?_)
        · skip
          refine v_lload dX3_bring_128 rfl ?_
          refine w_sub (lv2 := [(0, .ref a), (4, .long (jL (p:Nat))), (6, .int (iI (sh:Nat))), (7, .int (iI (bz dn))), (8, .long (jL c)), (10, .int (iI i))]) [1, 2, 3, 4, 5, 6] rfl ?_
          exact rest _ (by rw [c2]; rfl)
        · skip
          refine v_lload dX3_bring_122 rfl ?_
          refine w_lneg dX3_bring_124 ?_
          refine v_goto 130 dX3_bring_125 (by decide) ?_
          refine w_sub (lv2 := [(0, .ref a), (4, .long (jL (p:Nat))), (6, .int (iI (sh:Nat))), (7, .int (iI (bz dn))), (8, .long (jL c)), (10, .int (iI i))]) [1, 2, 3, 4, 5, 6] rfl ?_
          exact rest _ (by rw [c2]; rfl)
  have nr : ∀ H : zH, (na || n1 || n2) = true → H a = oQuire b true → H b = aN 16 f → zFr [a, b] h H → (zV X (fun r h' n' => r = none ∧ n' = n ∧ QD h' a b (na || n1 || n2) (cond (na || n1 || n2) V (qad V (aw ^^ m1 ^^ m2) (s1 * s2 * 2 ^ sh))) ∧ zFr [a, b] h h') cX3_bring 15 RX3 none d 0 0 30 [(0, .ref a), (1, .ref e1), (2, .ref e2), (3, .int (iI (bz aw)))] [] H n 0 0) := by
    intro H hnn h_a h_b fr
    refine v_aload_n dX3_bring_30 rfl ?_
    refine v_get fX3_13 dX3_bring_31 h_a (by decide) rfl ?_
    refine w_ifb_eq 38 dX3_bring_34 (by decide) (fun c1 => ?_) (fun c1 => ?_)
    · exact absurd c1 (by decide)
    · skip
      exact v_vret dX3_bring_37 trivial (Nat.le_of_ble_eq_true rfl) (Nat.le_of_ble_eq_true rfl) ⟨rfl, rfl, by rw [hnn, cond_true]; exact ⟨f, h_a, h_b, hf, hV⟩, fr⟩
  refine v_aload_n dX3_bring_0 rfl ?_
  refine v_aload_n dX3_bring_1 rfl ?_
  refine v_get fX3_13 dX3_bring_2 h_a (by decide) rfl ?_
  refine w_ifb_ne 22 dX3_bring_5 (by decide) (fun c1 => ?_) (fun c1 => ?_)
  · skip
    refine v_iconst (iI 1) dX3_bring_22 rfl ?_
    refine v_goto 27 dX3_bring_23 (by decide) ?_
    refine w_ei (bz true) rfl ?_
    refine v_put (fs' := [.ref b, .int (iI (bz true))]) fX3_13 dX3_bring_27 h_a (by decide) (Nat.le_of_ble_eq_true rfl) bz_n bz_f rfl (fun H1 eH1 => ?_)
    have h_a : H1 a = oQuire b true := zf_same eH1
    have h_b := (zf_ne eH1 ne_b_a).trans h_b
    have h_e1 := (zf_ne eH1 ne_e1_a).trans h_e1
    have h_e2 := (zf_ne eH1 ne_e2_a).trans h_e2
    have fr := fr.put eH1 (by simp)
    exact nr _ (by rw [c1]; rfl) h_a h_b fr
  · skip
    refine v_aload_n dX3_bring_8 rfl ?_
    refine v_get fX3_17 dX3_bring_9 h_e1 (by decide) rfl ?_
    refine w_ifb_ne 22 dX3_bring_12 (by decide) (fun c2 => ?_) (fun c2 => ?_)
    · skip
      refine v_iconst (iI 1) dX3_bring_22 rfl ?_
      refine v_goto 27 dX3_bring_23 (by decide) ?_
      refine w_ei (bz true) rfl ?_
      refine v_put (fs' := [.ref b, .int (iI (bz true))]) fX3_13 dX3_bring_27 h_a (by decide) (Nat.le_of_ble_eq_true rfl) bz_n bz_f rfl (fun H1 eH1 => ?_)
      have h_a : H1 a = oQuire b true := zf_same eH1
      have h_b := (zf_ne eH1 ne_b_a).trans h_b
      have h_e1 := (zf_ne eH1 ne_e1_a).trans h_e1
      have h_e2 := (zf_ne eH1 ne_e2_a).trans h_e2
      have fr := fr.put eH1 (by simp)
      exact nr _ (by rw [c2, Bool.or_true]; rfl) h_a h_b fr
    · skip
      refine v_aload_n dX3_bring_15 rfl ?_
      refine v_get fX3_17 dX3_bring_16 h_e2 (by decide) rfl ?_
      refine w_ifb_eq 26 dX3_bring_19 (by decide) (fun c3 => ?_) (fun c3 => ?_)
      · skip
        refine v_iconst (iI 0) dX3_bring_26 rfl ?_
        refine w_ei (bz false) rfl ?_
        refine v_put (fs' := [.ref b, .int (iI (bz false))]) fX3_13 dX3_bring_27 h_a (by decide) (Nat.le_of_ble_eq_true rfl) bz_n bz_f rfl (fun H1 eH1 => ?_)
        have h_a : H1 a = oQuire b false := zf_same eH1
        have h_b := (zf_ne eH1 ne_b_a).trans h_b
        have h_e1 := (zf_ne eH1 ne_e1_a).trans h_e1
        have h_e2 := (zf_ne eH1 ne_e2_a).trans h_e2
        have fr := fr.put eH1 (by simp)
        refine v_aload_n dX3_bring_30 rfl ?_
        refine v_get fX3_13 dX3_bring_31 h_a (by decide) rfl ?_
        refine w_ifb_eq 38 dX3_bring_34 (by decide) (fun c4 => ?_) (fun c4 => ?_)
        · skip
          refine v_aload_n dX3_bring_38 rfl ?_
          refine v_get fX3_20 dX3_bring_39 h_e1 (by decide) rfl ?_
          refine v_aload_n dX3_bring_42 rfl ?_
          refine v_get fX3_20 dX3_bring_43 h_e2 (by decide) rfl ?_
          refine w_lmul dX3_bring_46 ?_
          refine w_el (p:Nat) (by rw [← ep, Int.natCast_mul]) ?_
          refine v_lstore (i := 4) (lv' := [(4, .long (jL (p:Nat))), (0, .ref a), (1, .ref e1), (2, .ref e2), (3, .int (iI (bz aw)))]) dX3_bring_47 (by decide) rfl ?_
          refine v_aload_n dX3_bring_49 rfl ?_
          refine v_get fX3_24 dX3_bring_50 h_e1 (by decide) rfl ?_
          refine v_aload_n dX3_bring_53 rfl ?_
          refine v_get fX3_24 dX3_bring_54 h_e2 (by decide) rfl ?_
          refine w_iadd dX3_bring_57 ?_
          refine v_sipush (iI 240) dX3_bring_58 rfl ?_
          refine w_iadd dX3_bring_61 ?_
          refine w_ei (sh:Nat) (by omega) ?_
          refine v_istore (i := 6) (lv' := [(6, .int (iI (sh:Nat))), (4, .long (jL (p:Nat))), (0, .ref a), (1, .ref e1), (2, .ref e2), (3, .int (iI (bz aw)))]) dX3_bring_62 (by decide) rfl ?_
          refine v_iload_n dX3_bring_64 rfl ?_
          refine v_aload_n dX3_bring_65 rfl ?_
          refine v_get fX3_28 dX3_bring_66 h_e1 (by decide) rfl ?_
          refine w_bxor dX3_bring_69 ?_
          refine v_aload_n dX3_bring_70 rfl ?_
          refine v_get fX3_28 dX3_bring_71 h_e2 (by decide) rfl ?_
          refine w_bxor dX3_bring_74 ?_
          refine w_ei (bz dn) (by rw [edn]) ?_
          refine v_istore (i := 7) (lv' := [(7, .int (iI (bz dn))), (6, .int (iI (sh:Nat))), (4, .long (jL (p:Nat))), (0, .ref a), (1, .ref e1), (2, .ref e2), (3, .int (iI (bz aw)))]) dX3_bring_75 (by decide) rfl ?_
          refine v_lconst (jL 0) dX3_bring_77 rfl ?_
          refine v_lstore (i := 8) (lv' := [(8, .long (jL 0)), (7, .int (iI (bz dn))), (6, .int (iI (sh:Nat))), (4, .long (jL (p:Nat))), (0, .ref a), (1, .ref e1), (2, .ref e2), (3, .int (iI (bz aw)))]) dX3_bring_78 (by decide) rfl ?_
          refine v_iconst (iI 0) dX3_bring_80 rfl ?_
          refine v_istore (i := 10) (lv' := [(10, .int (iI 0)), (8, .long (jL 0)), (7, .int (iI (bz dn))), (6, .int (iI (sh:Nat))), (4, .long (jL (p:Nat))), (0, .ref a), (1, .ref e1), (2, .ref e2), (3, .int (iI (bz aw)))]) dX3_bring_81 (by decide) rfl ?_
          refine w_sub (lv2 := [(0, .ref a), (4, .long (jL (p:Nat))), (6, .int (iI (sh:Nat))), (7, .int (iI (bz dn))), (8, .long (jL 0)), (10, .int (iI 0))]) [5, 4, 3, 2, 1, 0] rfl ?_
          exact loop (by rw [c1, c2, c3]; rfl) 16 0 0 0 f _ rfl rfl (by decide) (by decide) (fun _ => by decide) (fun _ => by decide) hf (fun _ _ => rfl) (by rw [Nat.mul_zero, Nat.pow_zero, Nat.mod_one]; cases dn <;> simp [wv, sgnd]) h_a h_b fr
        · exact absurd c4 (by decide)
      · skip
        refine v_iconst (iI 1) dX3_bring_22 rfl ?_
        refine v_goto 27 dX3_bring_23 (by decide) ?_
        refine w_ei (bz true) rfl ?_
        refine v_put (fs' := [.ref b, .int (iI (bz true))]) fX3_13 dX3_bring_27 h_a (by decide) (Nat.le_of_ble_eq_true rfl) bz_n bz_f rfl (fun H1 eH1 => ?_)
        have h_a : H1 a = oQuire b true := zf_same eH1
        have h_b := (zf_ne eH1 ne_b_a).trans h_b
        have h_e1 := (zf_ne eH1 ne_e1_a).trans h_e1
        have h_e2 := (zf_ne eH1 ne_e2_a).trans h_e2
        have fr := fr.put eH1 (by simp)
        exact nr _ (by rw [c3, Bool.or_true]) h_a h_b fr
set_option maxHeartbeats 4000000 in
set_option maxRecDepth 100000 in
theorem p_isMinus {d n a b V : Nat} {na : Bool} {h : zH} (hq : QD h a b na V) :
    zM yX3_isMinus cX3_isMinus 1 (some .boolean) d 0 0 [.ref a] h n (fun r h' n' => r = some (.int (iI (bz (decide (2 ^ 511 ≤ V))))) ∧ n' = n ∧ h' = h) := by
  obtain ⟨f, h_a, h_b, hf, hV⟩ := hq
  have h1 := wv_lt hf 15
  have h2 := hf 15
  have e : V = wv f 15 + f 15 * 2 ^ (32 * 15) := hV.symm
  rw [show 32 * 15 = 480 from rfl] at e h1
  refine zM_of zyX3_isMinus rfl (Nat.le_of_ble_eq_true rfl) (fun X hX => ?_)
  refine v_aload_n dX3_isMinus_0 rfl ?_
  refine v_get fX3_9 dX3_isMinus_1 h_a (by decide) rfl ?_
  refine v_bipush (iI 15) dX3_isMinus_4 rfl ?_
  refine w_nald dX3_isMinus_6 h_b 15 rfl (by decide) (by decide) ?_
  refine w_topi ((f 15 : Int) - (if f 15 < 2147483648 then 0 else 4294967296)) (by split <;> omega) ?_
  refine w_if_ge 14 dX3_isMinus_7 (by decide) (by split <;> omega) (fun c1 => ?_) (fun c1 => ?_)
  · have c2 : f 15 < 2147483648 := by split at c1 <;> omega
    refine v_iconst (iI 0) dX3_isMinus_14 rfl ?_
    refine w_ei (bz false) rfl ?_
    exact v_iret dX3_isMinus_15 bz_ret (Nat.le_of_ble_eq_true rfl) (Nat.le_of_ble_eq_true rfl) ⟨by rw [decide_eq_false (by omega)], rfl, rfl⟩
  · have c2 : ¬ f 15 < 2147483648 := by split at c1 <;> omega
    refine v_iconst (iI 1) dX3_isMinus_10 rfl ?_
    refine v_goto 15 dX3_isMinus_11 (by decide) ?_
    refine w_ei (bz true) rfl ?_
    exact v_iret dX3_isMinus_15 bz_ret (Nat.le_of_ble_eq_true rfl) (Nat.le_of_ble_eq_true rfl) ⟨by rw [decide_eq_true (by omega)], rfl, rfl⟩
/-- the size of what the words say -/
def qsz (V : Nat) : Nat := if 2 ^ 511 ≤ V then 2 ^ 512 - V else V
set_option maxHeartbeats 4000000 in
set_option maxRecDepth 100000 in
theorem p_copySize {d n a b V ta tb v : Nat} {na : Bool} {h : zH} (hq : QD h a b na V) (hw : WD h ta tb v) (hne : b ≠ tb) (hd : 2 ≤ d) :
    zM yX3_copySize cX3_copySize 2 none d 0 0 [.ref a, .ref ta] h n (fun r h' n' => r = none ∧ n' = n ∧ WD h' ta tb (qsz V) ∧ zFr [ta, tb] h h') := by
  have hVlt := hq.lt
  obtain ⟨f, h_a, h_b, hf, hV⟩ := id hq
  obtain ⟨u9, f9, h_ta, -⟩ := id hw
  refine zM_of zyX3_copySize rfl (Nat.le_of_ble_eq_true rfl) (fun X hX => ?_)
  have fr : zFr [ta, tb] h h := zFr.rf
  refine v_aload_n dX3_copySize_0 rfl ?_
  refine v_aload_n dX3_copySize_1 rfl ?_
  refine v_get fX3_9 dX3_copySize_2 h_a (by decide) rfl ?_
  refine v_aload_n dX3_copySize_5 rfl ?_
  refine v_cV (av := []) (st := [.ref b, .ref ta]) zyX3_isMinus lX3_37 h_a rfl (p_isMinus (d := 1) hq) dX3_copySize_6 rfl rfl (Nat.le_of_ble_eq_true rfl) (by omega) (Nat.le_of_ble_eq_true rfl) (Nat.le_of_ble_eq_true rfl) (Or.inl (fun _ _ _ q => ZN q)) (fun r9 K1 n9 q9 => ?_)
  obtain ⟨rfl, q9n, q9h⟩ := q9
  have q9n := q9n.symm
  subst q9n
  have q9h := q9h.symm
  subst q9h
  refine v_cV (av := [.ref b, .int (iI (bz (decide (2 ^ 511 ≤ V))))]) (st := []) zyX7_copyWords lX3_41 h_ta rfl (p_copyWords (d := 1) hw h_b hf hne (by decide)) dX3_copySize_9 rfl rfl (Nat.le_of_ble_eq_true rfl) (by omega) (Nat.le_of_ble_eq_true rfl) (Nat.le_of_ble_eq_true rfl) (Or.inl (fun _ _ _ q => ZN q)) (fun r9 H9 n9 q9 => ?_)
  obtain ⟨rfl, q9n, hw9, fr9⟩ := q9
  have q9n := q9n.symm
  subst q9n
  have e : cwv f (decide (2 ^ 511 ≤ V)) = qsz V := by
    unfold cwv qsz
    rw [hV]
    by_cases z : 2 ^ 511 ≤ V
    · rw [decide_eq_true z, cond_true, if_pos z, Nat.mod_eq_of_lt (by omega)]
    · rw [decide_eq_false z, cond_false, if_neg z]
  rw [e] at hw9
  exact v_vret dX3_copySize_12 trivial (Nat.le_of_ble_eq_true rfl) (Nat.le_of_ble_eq_true rfl) ⟨rfl, rfl, hw9, fr9⟩
set_option maxHeartbeats 4000000 in
set_option maxRecDepth 100000 in
theorem p_wordOfImage {d n a b V i : Nat} {na : Bool} {h : zH} (hq : QD h a b na V) (hi : i < 16) :
    zM yX3_wordOfImage cX3_wordOfImage 2 (some .int) d 0 0 [.ref a, .int (iI (i:Nat))] h n (fun r h' n' => r = some (.int (iI (cond na (if i = 15 then -2147483648 else 0) (wat V i : Nat)))) ∧ n' = n ∧ h' = h) := by
  obtain ⟨f, h_a, h_b, hf, hV⟩ := hq
  refine zM_of zyX3_wordOfImage rfl (Nat.le_of_ble_eq_true rfl) (fun X hX => ?_)
  refine v_aload_n dX3_wordOfImage_0 rfl ?_
  refine v_get fX3_13 dX3_wordOfImage_1 h_a (by decide) rfl ?_
  refine w_ifb_eq 20 dX3_wordOfImage_4 (by decide) (fun c1 => ?_) (fun c1 => ?_)
  · skip
    refine v_iload_n dX3_wordOfImage_20 rfl ?_
    refine w_if_lt 39 dX3_wordOfImage_21 (by decide) (by omega) (fun c2 => ?_) (fun c2 => ?_)
    · exact absurd c2 (by omega)
    · skip
      refine v_iload_n dX3_wordOfImage_24 rfl ?_
      refine v_bipush (iI 16) dX3_wordOfImage_25 rfl ?_
      refine w_icmp_ge 39 dX3_wordOfImage_27 (by decide) (by omega) (by decide) (fun c3 => ?_) (fun c3 => ?_)
      · exact absurd c3 (by omega)
      · skip
        refine v_aload_n dX3_wordOfImage_30 rfl ?_
        refine v_get fX3_9 dX3_wordOfImage_31 h_a (by decide) rfl ?_
        refine v_iload_n dX3_wordOfImage_34 rfl ?_
        refine w_nald dX3_wordOfImage_35 h_b i (by omega) (by omega) (by decide) ?_
        refine v_goto 40 dX3_wordOfImage_36 (by decide) ?_
        exact v_iret dX3_wordOfImage_40 trivial (Nat.le_of_ble_eq_true rfl) (Nat.le_of_ble_eq_true rfl) ⟨by rw [c1, cond_false, ← hV, wv_digit hf hi], rfl, rfl⟩
  · skip
    refine v_iload_n dX3_wordOfImage_7 rfl ?_
    refine v_bipush (iI 15) dX3_wordOfImage_8 rfl ?_
    refine w_icmp_ne 18 dX3_wordOfImage_10 (by decide) (by omega) (by decide) (fun c2 => ?_) (fun c2 => ?_)
    · skip
      refine v_iconst (iI 0) dX3_wordOfImage_18 rfl ?_
      exact v_iret dX3_wordOfImage_19 trivial (Nat.le_of_ble_eq_true rfl) (Nat.le_of_ble_eq_true rfl) ⟨by rw [c1, cond_true, if_neg (by omega)], rfl, rfl⟩
    · skip
      refine v_ldc (v := iI (-2147483648)) (by rw [show iI (-2147483648) = (-2147483648 : Int32) from by decide]; exact kX3_49) dX3_wordOfImage_13 ?_
      refine v_goto 19 dX3_wordOfImage_15 (by decide) ?_
      exact v_iret dX3_wordOfImage_19 trivial (Nat.le_of_ble_eq_true rfl) (Nat.le_of_ble_eq_true rfl) ⟨by rw [c1, cond_true, if_pos (by omega)], rfl, rfl⟩
