/-! The reference: whole numbers -/
section
variable {X : zX} {Post : zP} {cc : ByteArray} {nL : Nat} {own : String} {ret : Option FieldType} {d MC MS pc : Nat} {lv : List (Nat × Value)} {st : List Value} {h : zH} {n cells slots : Nat}
theorem iI_andN {x y : Nat} (hx : x < 4294967296) (hy : y < 4294967296) : iI (x : Int) &&& iI (y : Int) = iI ((x &&& y : Nat) : Int) := un_inj (by
  have h1 : x &&& y ≤ x := Nat.and_le_left
  rw [un_and, iI_nat, iI_nat, iI_nat, un_nI hx, un_nI hy, un_nI (by omega)])
theorem w_iandn {a m : Int} (hd : decode cc pc = .ok (.iand, 1)) (x y : Nat) (hx : a = x) (hy : m = y) (hxr : x < 4294967296) (hyr : y < 4294967296) (k9 : zV X Post cc nL own ret d MC MS (pc + 1) lv (.int (iI ((x &&& y : Nat) : Int)) :: st) h n cells slots) : zV X Post cc nL own ret d MC MS pc lv (.int (iI m) :: .int (iI a) :: st) h n cells slots := v_iand hd (by rw [hx, hy, iI_andN hxr hyr]; exact k9)
end
/-- the JDK's count of bits, step by step -/
def bcA (x M : Nat) : Nat := x - (x / 2 &&& M)
def bcB (y M : Nat) : Nat := (y &&& M) + (y / 4 &&& M)
def bcC (z M : Nat) : Nat := (z + z / 16) &&& M
def bcD (w : Nat) : Nat := (w + w / 256 + (w + w / 256) / 65536) % 64
def bcS (x : Nat) : Nat := bcD (bcC (bcB (bcA x 1431655765) 858993459) 252645135)
theorem land_split {a b m k : Nat} (ha : a < 256) (hm : m < 256) : (256 * b + a) &&& (256 * k + m) = 256 * (b &&& k) + (a &&& m) := by
  apply Nat.eq_of_testBit_eq
  intro i
  have h1 : a &&& m < 2 ^ 8 := Nat.and_lt_two_pow a hm
  rw [Nat.testBit_and, show (256 : Nat) = 2 ^ 8 from rfl, Nat.testBit_two_pow_mul_add b ha, Nat.testBit_two_pow_mul_add k hm, Nat.testBit_two_pow_mul_add (b &&& k) h1]
  split
  · rw [Nat.testBit_and]
  · rw [Nat.testBit_and]
theorem bc_f1 : ∀ a : Fin 256, ∀ c : Fin 2, (128 * c.val + a.val / 2) &&& 85 = a.val / 2 &&& 85 := by decide +kernel
theorem bc_f2 : ∀ a : Fin 256, ∀ c : Fin 4, (64 * c.val + a.val / 4) &&& 51 = a.val / 4 &&& 51 := by decide +kernel
theorem bc_f3 : ∀ a : Fin 256, bcA a.val 85 < 256 ∧ bcB (bcA a.val 85) 51 ≤ 68 ∧ bcB (bcA a.val 85) 51 % 16 ≤ 4 ∧ bcC (bcB (bcA a.val 85) 51) 15 ≤ 8 ∧ (bcC (bcB (bcA a.val 85) 51) 15 = 0 → a.val = 0) := by decide +kernel
theorem bcA_s {a b M : Nat} (ha : a < 256) : bcA (256 * b + a) (256 * M + 85) = 256 * bcA b M + bcA a 85 := by
  unfold bcA
  have h1 : b / 2 &&& M ≤ b / 2 := Nat.and_le_left
  have h2 : a / 2 &&& 85 ≤ a / 2 := Nat.and_le_left
  have h3 : (128 * (b % 2) + a / 2) &&& 85 = a / 2 &&& 85 := bc_f1 ⟨a, ha⟩ ⟨b % 2, by omega⟩
  rw [show (256 * b + a) / 2 = 256 * (b / 2) + (128 * (b % 2) + a / 2) from by omega, land_split (by omega) (by decide), h3]
  omega
theorem bcB_s {a b M : Nat} (ha : a < 256) : bcB (256 * b + a) (256 * M + 51) = 256 * bcB b M + bcB a 51 := by
  unfold bcB
  have h3 : (64 * (b % 4) + a / 4) &&& 51 = a / 4 &&& 51 := bc_f2 ⟨a, ha⟩ ⟨b % 4, by omega⟩
  rw [land_split ha (by decide), show (256 * b + a) / 4 = 256 * (b / 4) + (64 * (b % 4) + a / 4) from by omega, land_split (by omega) (by decide), h3]
  omega
theorem bcC_s {a b M : Nat} (ha : a ≤ 68) (hb : b % 16 ≤ 4) : bcC (256 * b + a) (256 * M + 15) = 256 * bcC b M + bcC a 15 := by
  unfold bcC
  rw [show 256 * b + a + (256 * b + a) / 16 = 256 * (b + b / 16) + (a + a / 16 + 16 * (b % 16)) from by omega, land_split (by omega) (by decide), show (15 : Nat) = 2 ^ 4 - 1 from rfl, Nat.and_two_pow_sub_one_eq_mod, Nat.and_two_pow_sub_one_eq_mod]
  omega
theorem bc_zero {x : Nat} (hx : x < 4294967296) (h : bcS x = 0) : x = 0 := by
  obtain ⟨a0, a1, a2, a3, h0, h1, h2, h3, e⟩ : ∃ a0 a1 a2 a3 : Nat, a0 < 256 ∧ a1 < 256 ∧ a2 < 256 ∧ a3 < 256 ∧ x = 256 * (256 * (256 * a3 + a2) + a1) + a0 := ⟨x % 256, x / 256 % 256, x / 65536 % 256, x / 16777216, by omega, by omega, by omega, by omega, by omega⟩
  have f0 := bc_f3 ⟨a0, h0⟩
  have f1 := bc_f3 ⟨a1, h1⟩
  have f2 := bc_f3 ⟨a2, h2⟩
  have f3 := bc_f3 ⟨a3, h3⟩
  simp only at f0 f1 f2 f3
  have eA : bcA x 1431655765 = 256 * (256 * (256 * bcA a3 85 + bcA a2 85) + bcA a1 85) + bcA a0 85 := by
    rw [e, show (1431655765 : Nat) = 256 * (256 * (256 * 85 + 85) + 85) + 85 from rfl, bcA_s h0, bcA_s h1, bcA_s h2]
  unfold bcS at h
  rw [eA] at h
  rw [show (858993459 : Nat) = 256 * (256 * (256 * 51 + 51) + 51) + 51 from rfl, bcB_s f0.1, bcB_s f1.1, bcB_s f2.1] at h
  rw [show (252645135 : Nat) = 256 * (256 * (256 * 15 + 15) + 15) + 15 from rfl] at h
  rw [bcC_s f0.2.1 (by omega), bcC_s f1.2.1 (by omega), bcC_s f2.2.1 f3.2.2.1] at h
  generalize bcC (bcB (bcA a0 85) 51) 15 = c0 at *
  generalize bcC (bcB (bcA a1 85) 51) 15 = c1 at *
  generalize bcC (bcB (bcA a2 85) 51) 15 = c2 at *
  generalize bcC (bcB (bcA a3 85) 51) 15 = c3 at *
  unfold bcD at h
  have k0 := f0.2.2.2.1
  have k1 := f1.2.2.2.1
  have k2 := f2.2.2.2.1
  have k3 := f3.2.2.2.1
  have w1 : (256 * (256 * (256 * c3 + c2) + c1) + c0) / 256 = 256 * (256 * c3 + c2) + c1 := by omega
  rw [w1] at h
  have w2 : (256 * (256 * (256 * c3 + c2) + c1) + c0 + (256 * (256 * c3 + c2) + c1)) / 65536 = 256 * c3 + c2 + c3 := by omega
  rw [w2] at h
  have w3 : c0 + c1 + c2 + c3 = 0 := by omega
  have z0 := f0.2.2.2.2 (by omega)
  have z1 := f1.2.2.2.2 (by omega)
  have z2 := f2.2.2.2.2 (by omega)
  have z3 := f3.2.2.2.2 (by omega)
  omega
theorem bc_8 : ∀ a : Fin 8, bcS (8 + a.val) = 1 → a.val = 0 := by decide +kernel
theorem bc_pos {x : Nat} (h : x = 0) : bcS x = 0 := by rw [h]; decide +kernel
set_option maxHeartbeats 8000000 in
set_option maxRecDepth 100000 in
theorem p_bitCount {d n x : Nat} {h : zH} (hx : x < 1073741824) :
    zM yJ6_bitCount_0f7a4 cJ6_bitCount_0f7a4 1 (some .int) d 0 0 [.int (iI (x:Nat))] h n (fun r h' n' => r = some (.int (iI (bcS x : Nat))) ∧ n' = n ∧ h' = h) := by
  refine zM_of zyJ6_bitCount_0f7a4 rfl (Nat.le_of_ble_eq_true rfl) (fun X hX => ?_)
  obtain ⟨y, ey⟩ : ∃ y, bcA x 1431655765 = y := ⟨_, rfl⟩
  obtain ⟨z, ez⟩ : ∃ z, bcB y 858993459 = z := ⟨_, rfl⟩
  obtain ⟨w, ew⟩ : ∃ w, bcC z 252645135 = w := ⟨_, rfl⟩
  have hy : y ≤ x := by rw [← ey]; unfold bcA; omega
  have hz1 : y &&& 858993459 ≤ y := Nat.and_le_left
  have hz2 : y / 4 &&& 858993459 ≤ y / 4 := Nat.and_le_left
  have hz : z ≤ y + y / 4 := by rw [← ez]; unfold bcB; omega
  have hw : w ≤ z + z / 16 := by rw [← ew]; exact Nat.and_le_left
  have hp : x / 2 &&& 1431655765 ≤ x / 2 := Nat.and_le_left
  refine v_iload_n dJ6_bitCount_0f7a4_0 rfl ?_
  refine v_iload_n dJ6_bitCount_0f7a4_1 rfl ?_
  refine v_iconst (iI 1) dJ6_bitCount_0f7a4_2 rfl ?_
  refine w_iushr dJ6_bitCount_0f7a4_3 1 2 rfl rfl (by decide) (by omega) ?_
  refine w_ei (x / 2:Nat) (by omega) ?_
  refine v_ldc_w (v := iI 1431655765) kJ6_265 dJ6_bitCount_0f7a4_4 ?_
  refine w_iandn dJ6_bitCount_0f7a4_7 (x / 2) 1431655765 rfl rfl (by omega) (by decide) ?_
  refine w_isub dJ6_bitCount_0f7a4_8 ?_
  refine w_ei (y:Nat) (by rw [← ey]; unfold bcA; omega) ?_
  refine v_istore_n (i := 0) (lv' := [(0, .int (iI (y:Nat)))]) dJ6_bitCount_0f7a4_9 rfl (by decide) rfl ?_
  refine v_iload_n dJ6_bitCount_0f7a4_10 rfl ?_
  refine v_ldc_w (v := iI 858993459) kJ6_266 dJ6_bitCount_0f7a4_11 ?_
  refine w_iandn dJ6_bitCount_0f7a4_14 y 858993459 rfl rfl (by omega) (by decide) ?_
  refine v_iload_n dJ6_bitCount_0f7a4_15 rfl ?_
  refine v_iconst (iI 2) dJ6_bitCount_0f7a4_16 rfl ?_
  refine w_iushr dJ6_bitCount_0f7a4_17 2 4 rfl rfl (by decide) (by omega) ?_
  refine w_ei (y / 4:Nat) (by omega) ?_
  refine v_ldc_w (v := iI 858993459) kJ6_266 dJ6_bitCount_0f7a4_18 ?_
  refine w_iandn dJ6_bitCount_0f7a4_21 (y / 4) 858993459 rfl rfl (by omega) (by decide) ?_
  refine w_iadd dJ6_bitCount_0f7a4_22 ?_
  refine w_ei (z:Nat) (by rw [← ez]; unfold bcB; omega) ?_
  refine v_istore_n (i := 0) (lv' := [(0, .int (iI (z:Nat)))]) dJ6_bitCount_0f7a4_23 rfl (by decide) rfl ?_
  refine v_iload_n dJ6_bitCount_0f7a4_24 rfl ?_
  refine v_iload_n dJ6_bitCount_0f7a4_25 rfl ?_
  refine v_iconst (iI 4) dJ6_bitCount_0f7a4_26 rfl ?_
  refine w_iushr dJ6_bitCount_0f7a4_27 4 16 rfl rfl (by decide) (by omega) ?_
  refine w_iadd dJ6_bitCount_0f7a4_28 ?_
  refine w_ei (z + z / 16:Nat) (by omega) ?_
  refine v_ldc_w (v := iI 252645135) kJ6_267 dJ6_bitCount_0f7a4_29 ?_
  refine w_iandn dJ6_bitCount_0f7a4_32 (z + z / 16) 252645135 rfl rfl (by omega) (by decide) ?_
  refine w_ei (w:Nat) (by rw [← ew]; rfl) ?_
  refine v_istore_n (i := 0) (lv' := [(0, .int (iI (w:Nat)))]) dJ6_bitCount_0f7a4_33 rfl (by decide) rfl ?_
  refine v_iload_n dJ6_bitCount_0f7a4_34 rfl ?_
  refine v_iload_n dJ6_bitCount_0f7a4_35 rfl ?_
  refine v_bipush (iI 8) dJ6_bitCount_0f7a4_36 rfl ?_
  refine w_iushr dJ6_bitCount_0f7a4_38 8 256 rfl rfl (by decide) (by omega) ?_
  refine w_iadd dJ6_bitCount_0f7a4_39 ?_
  refine w_ei (w + w / 256:Nat) (by omega) ?_
  refine v_istore_n (i := 0) (lv' := [(0, .int (iI (w + w / 256:Nat)))]) dJ6_bitCount_0f7a4_40 rfl (by decide) rfl ?_
  refine v_iload_n dJ6_bitCount_0f7a4_41 rfl ?_
  refine v_iload_n dJ6_bitCount_0f7a4_42 rfl ?_
  refine v_bipush (iI 16) dJ6_bitCount_0f7a4_43 rfl ?_
  refine w_iushr dJ6_bitCount_0f7a4_45 16 65536 rfl rfl (by decide) (by omega) ?_
  refine w_iadd dJ6_bitCount_0f7a4_46 ?_
  refine w_ei (w + w / 256 + (w + w / 256) / 65536:Nat) (by omega) ?_
  refine v_istore_n (i := 0) (lv' := [(0, .int (iI (w + w / 256 + (w + w / 256) / 65536:Nat)))]) dJ6_bitCount_0f7a4_47 rfl (by decide) rfl ?_
  refine v_iload_n dJ6_bitCount_0f7a4_48 rfl ?_
  refine v_bipush (iI 63) dJ6_bitCount_0f7a4_49 rfl ?_
  refine w_iandm dJ6_bitCount_0f7a4_51 6 64 rfl (by decide) rfl ?_
  exact v_iret dJ6_bitCount_0f7a4_52 trivial (Nat.le_of_ble_eq_true rfl) (Nat.le_of_ble_eq_true rfl) ⟨by unfold bcS; rw [ey, ez, ew]; rfl, rfl, rfl⟩
set_option maxHeartbeats 8000000 in
set_option maxRecDepth 100000 in
theorem p_isPower {d n a b v : Nat} {h : zH} (hw : ND h a b v) (hv : 2 ^ 63 ≤ v ∧ v < 2 ^ 64) (hd : 1 ≤ d) :
    zM yX11_isPower cX11_isPower 3 (some .boolean) d 0 0 [.ref a] h n (fun r h' n' => r = some (.int (iI (bz (decide (v = 2 ^ 63))))) ∧ n' = n ∧ h' = h) := by
  obtain ⟨u, f, h_a, h_b, hf, hu, hv9, htop⟩ := hw
  have hu3 : u = 3 := by
    have h1 := ND.len (f := f) (u := u) (m := 3) htop (by rw [hv9]; have : (2 : Nat) ^ 64 ≤ 2 ^ (30 * 3) := Nat.pow_le_pow_right (by decide) (by decide); omega)
    have h2 := nv_lt hf u
    rw [hv9] at h2
    rcases Nat.lt_or_ge u 3 with q | q
    · have : (2 : Nat) ^ (30 * u) ≤ 2 ^ 60 := Nat.pow_le_pow_right (by decide) (by omega)
      have : (2 : Nat) ^ 60 < 2 ^ 63 := by decide
      omega
    · omega
  subst hu3
  have e3 : f 0 + f 1 * 1073741824 + f 2 * 1152921504606846976 = v := by rw [← hv9]; show _ = 0 + f 0 * 2 ^ (30 * 0) + f 1 * 2 ^ (30 * 1) + f 2 * 2 ^ (30 * 2); omega
  have hf0 := hf 0
  have hf1 := hf 1
  have hf2 := hf 2
  have h63 : (2 : Nat) ^ 63 = 9223372036854775808 := rfl
  have h64 : (2 : Nat) ^ 64 = 18446744073709551616 := rfl
  rw [h63, h64] at hv
  rw [h63]
  have b0 : bcS (f 0) < 64 := Nat.mod_lt _ (by decide)
  have b1 : bcS (f 1) < 64 := Nat.mod_lt _ (by decide)
  have b2 : bcS (f 2) < 64 := Nat.mod_lt _ (by decide)
  have hd2 : 8 ≤ f 2 ∧ f 2 < 16 := by omega
  have key : bcS (f 0) + bcS (f 1) + bcS (f 2) = 1 ↔ v = 9223372036854775808 := by
    constructor
    · intro z
      have hne : bcS (f 2) ≠ 0 := fun y => by have := bc_zero (by omega) y; omega
      have z0 := bc_zero (x := f 0) (by omega) (by omega)
      have z1 := bc_zero (x := f 1) (by omega) (by omega)
      have z2 := bc_8 ⟨f 2 - 8, by omega⟩ (by rw [show 8 + (⟨f 2 - 8, by omega⟩ : Fin 8).val = f 2 from by simp only; omega]; omega)
      simp only at z2
      omega
    · intro z
      have z2 : f 2 = 8 := by omega
      have z1 : f 1 = 0 := by omega
      have z0 : f 0 = 0 := by omega
      rw [z2, z1, z0]; decide +kernel
  refine zM_of zyX11_isPower rfl (Nat.le_of_ble_eq_true rfl) (fun X hX => ?_)
  refine v_iconst (iI 0) dX11_isPower_0 rfl ?_
  refine v_istore_n (i := 1) (lv' := [(1, .int (iI 0)), (0, .ref a)]) dX11_isPower_1 rfl (by decide) rfl ?_
  refine v_iconst (iI 0) dX11_isPower_2 rfl ?_
  refine v_istore_n (i := 2) (lv' := [(2, .int (iI 0)), (1, .int (iI 0)), (0, .ref a)]) dX11_isPower_3 rfl (by decide) rfl ?_
  refine w_sub (lv2 := [(0, .ref a), (1, .int (iI 0)), (2, .int (iI 0))]) [2, 1, 0] rfl ?_
  refine v_iload_n dX11_isPower_4 rfl ?_
  refine v_aload_n dX11_isPower_5 rfl ?_
  refine v_getN fX11_206 dX11_isPower_6 h_a (by decide) rfl ?_
  refine w_icmp_ge 30 dX11_isPower_9 (by decide) (by decide) (by omega) (fun c1 => ?_) (fun c1 => ?_)
  · exact absurd c1 (by omega)
  · skip
    refine v_iload_n dX11_isPower_12 rfl ?_
    refine v_aload_n dX11_isPower_13 rfl ?_
    refine v_getN fX11_209 dX11_isPower_14 h_a (by decide) rfl ?_
    refine v_iload_n dX11_isPower_17 rfl ?_
    refine w_nald dX11_isPower_18 h_b 0 (by omega) (by omega) (by decide) ?_
    refine v_cS (av := [.int (iI (f 0 : Nat))]) (st := [.int (iI 0)]) zyJ6_bitCount_0f7a4 lX11_212 (p_bitCount (d := 0) (x := f 0) hf0) dX11_isPower_19 rfl rfl (Nat.le_of_ble_eq_true rfl) (by omega) (Nat.le_of_ble_eq_true rfl) (Nat.le_of_ble_eq_true rfl) (Or.inl (fun _ _ _ q => ZN q)) (fun r9 K1 n9 q9 => ?_)
    obtain ⟨rfl, q9n, q9h⟩ := q9
    have q9n := q9n.symm
    subst q9n
    have q9h := q9h.symm
    subst q9h
    refine w_iadd dX11_isPower_22 ?_
    refine v_istore_n (i := 1) (lv' := [(1, .int (iI (0 + (bcS (f 0):Nat)))), (0, .ref a), (2, .int (iI 0))]) dX11_isPower_23 rfl (by decide) rfl ?_
    refine w_iinc (lv' := [(2, .int (iI (0 + 1))), (1, .int (iI (0 + (bcS (f 0):Nat)))), (0, .ref a)]) dX11_isPower_24 rfl (by decide) rfl ?_
    refine v_goto 4 dX11_isPower_27 (by decide) ?_
    refine w_sub (lv2 := [(0, .ref a), (1, .int (iI (0 + (bcS (f 0):Nat)))), (2, .int (iI (0 + 1)))]) [2, 1, 0] rfl ?_
    refine v_iload_n dX11_isPower_4 rfl ?_
    refine v_aload_n dX11_isPower_5 rfl ?_
    refine v_getN fX11_206 dX11_isPower_6 h_a (by decide) rfl ?_
    refine w_icmp_ge 30 dX11_isPower_9 (by decide) (by omega) (by omega) (fun c2 => ?_) (fun c2 => ?_)
    · exact absurd c2 (by omega)
    · skip
      refine v_iload_n dX11_isPower_12 rfl ?_
      refine v_aload_n dX11_isPower_13 rfl ?_
      refine v_getN fX11_209 dX11_isPower_14 h_a (by decide) rfl ?_
      refine v_iload_n dX11_isPower_17 rfl ?_
      refine w_nald dX11_isPower_18 h_b 1 (by omega) (by omega) (by decide) ?_
      refine v_cS (av := [.int (iI (f 1 : Nat))]) (st := [.int (iI (0 + (bcS (f 0):Nat)))]) zyJ6_bitCount_0f7a4 lX11_212 (p_bitCount (d := 0) (x := f 1) hf1) dX11_isPower_19 rfl rfl (Nat.le_of_ble_eq_true rfl) (by omega) (Nat.le_of_ble_eq_true rfl) (Nat.le_of_ble_eq_true rfl) (Or.inl (fun _ _ _ q => ZN q)) (fun r9 K2 n9 q9 => ?_)
      obtain ⟨rfl, q9n, q9h⟩ := q9
      have q9n := q9n.symm
      subst q9n
      have q9h := q9h.symm
      subst q9h
      refine w_iadd dX11_isPower_22 ?_
      refine v_istore_n (i := 1) (lv' := [(1, .int (iI ((0 + (bcS (f 0):Nat)) + (bcS (f 1):Nat)))), (0, .ref a), (2, .int (iI (0 + 1)))]) dX11_isPower_23 rfl (by decide) rfl ?_
      refine w_iinc (lv' := [(2, .int (iI ((0 + 1) + 1))), (1, .int (iI ((0 + (bcS (f 0):Nat)) + (bcS (f 1):Nat)))), (0, .ref a)]) dX11_isPower_24 rfl (by decide) rfl ?_
      refine v_goto 4 dX11_isPower_27 (by decide) ?_
      refine w_sub (lv2 := [(0, .ref a), (1, .int (iI ((0 + (bcS (f 0):Nat)) + (bcS (f 1):Nat)))), (2, .int (iI ((0 + 1) + 1)))]) [2, 1, 0] rfl ?_
      refine v_iload_n dX11_isPower_4 rfl ?_
      refine v_aload_n dX11_isPower_5 rfl ?_
      refine v_getN fX11_206 dX11_isPower_6 h_a (by decide) rfl ?_
      refine w_icmp_ge 30 dX11_isPower_9 (by decide) (by omega) (by omega) (fun c3 => ?_) (fun c3 => ?_)
      · exact absurd c3 (by omega)
      · skip
        refine v_iload_n dX11_isPower_12 rfl ?_
        refine v_aload_n dX11_isPower_13 rfl ?_
        refine v_getN fX11_209 dX11_isPower_14 h_a (by decide) rfl ?_
        refine v_iload_n dX11_isPower_17 rfl ?_
        refine w_nald dX11_isPower_18 h_b 2 (by omega) (by omega) (by decide) ?_
        refine v_cS (av := [.int (iI (f 2 : Nat))]) (st := [.int (iI ((0 + (bcS (f 0):Nat)) + (bcS (f 1):Nat)))]) zyJ6_bitCount_0f7a4 lX11_212 (p_bitCount (d := 0) (x := f 2) hf2) dX11_isPower_19 rfl rfl (Nat.le_of_ble_eq_true rfl) (by omega) (Nat.le_of_ble_eq_true rfl) (Nat.le_of_ble_eq_true rfl) (Or.inl (fun _ _ _ q => ZN q)) (fun r9 K3 n9 q9 => ?_)
        obtain ⟨rfl, q9n, q9h⟩ := q9
        have q9n := q9n.symm
        subst q9n
        have q9h := q9h.symm
        subst q9h
        refine w_iadd dX11_isPower_22 ?_
        refine v_istore_n (i := 1) (lv' := [(1, .int (iI (((0 + (bcS (f 0):Nat)) + (bcS (f 1):Nat)) + (bcS (f 2):Nat)))), (0, .ref a), (2, .int (iI ((0 + 1) + 1)))]) dX11_isPower_23 rfl (by decide) rfl ?_
        refine w_iinc (lv' := [(2, .int (iI (((0 + 1) + 1) + 1))), (1, .int (iI (((0 + (bcS (f 0):Nat)) + (bcS (f 1):Nat)) + (bcS (f 2):Nat)))), (0, .ref a)]) dX11_isPower_24 rfl (by decide) rfl ?_
        refine v_goto 4 dX11_isPower_27 (by decide) ?_
        refine w_sub (lv2 := [(0, .ref a), (1, .int (iI (((0 + (bcS (f 0):Nat)) + (bcS (f 1):Nat)) + (bcS (f 2):Nat)))), (2, .int (iI (((0 + 1) + 1) + 1)))]) [2, 1, 0] rfl ?_
        refine v_iload_n dX11_isPower_4 rfl ?_
        refine v_aload_n dX11_isPower_5 rfl ?_
        refine v_getN fX11_206 dX11_isPower_6 h_a (by decide) rfl ?_
        refine w_icmp_ge 30 dX11_isPower_9 (by decide) (by omega) (by omega) (fun c4 => ?_) (fun c4 => ?_)
        · skip
          refine v_iload_n dX11_isPower_30 rfl ?_
          refine v_iconst (iI 1) dX11_isPower_31 rfl ?_
          refine w_icmp_ne 39 dX11_isPower_32 (by decide) (by omega) (by decide) (fun c5 => ?_) (fun c5 => ?_)
          · skip
            refine v_iconst (iI 0) dX11_isPower_39 rfl ?_
            refine w_ei (bz false) rfl ?_
            exact v_iret dX11_isPower_40 bz_ret (Nat.le_of_ble_eq_true rfl) (Nat.le_of_ble_eq_true rfl) ⟨by rw [decide_eq_false (fun z => c5 (by have := key.mpr z; omega))], rfl, rfl⟩
          · skip
            refine v_iconst (iI 1) dX11_isPower_35 rfl ?_
            refine v_goto 40 dX11_isPower_36 (by decide) ?_
            refine w_ei (bz true) rfl ?_
            exact v_iret dX11_isPower_40 bz_ret (Nat.le_of_ble_eq_true rfl) (Nat.le_of_ble_eq_true rfl) ⟨by rw [decide_eq_true (key.mp (by omega))], rfl, rfl⟩
        · exact absurd c4 (by omega)
/-- whether a size goes up to the next whole number -/
def wup (how : Nat) (pos : Bool) (M t : Nat) : Bool := if how = 3 then decide (2 ^ t < 2 * (M % 2 ^ t)) || (decide (2 * (M % 2 ^ t) = 2 ^ t) && decide (M / 2 ^ t % 2 = 1)) else decide (M % 2 ^ t ≠ 0) && (decide (how = 5) == pos)
def b2n (b : Bool) : Nat := cond b 1 0
def wlv (how : Nat) (s : Int) (M : Nat) (E : Int) : Nat := if 0 ≤ E then M * 2 ^ E.toNat else M / 2 ^ (-E).toNat + b2n (wup how (decide (0 < s)) M (-E).toNat)
set_option maxHeartbeats 8000000 in
set_option maxRecDepth 100000 in
theorem p_wholeOf {d n how M : Nat} {s E sg e rt th tp wr at9 sz dg pw tn fm : Int} {h : zH} (h_47 : h 47 = oModel s (M:Nat) E sg e rt th tp wr at9 sz dg pw tn fm) (hP : NS h 62 63) (hh : 3 ≤ how ∧ how ≤ 5) (hl : (s = 0 ∧ M = 0 ∧ E = 0) ∨ ((s = 1 ∨ s = -1) ∧ 0 < M ∧ M < 4294967296 ∧ -120 ≤ E ∧ E ≤ 120)) (hd : 2 ≤ d) :
    zM yX11_wholeOf cX11_wholeOf 9 (some .int) d 0 0 [.ref 47, .int (iI (how:Nat))] h n (fun r h' n' => r = some (.int (iI (if wlv how s M E = 0 then 0 else s))) ∧ n' = n ∧ ND h' 62 63 (wlv how s M E) ∧ zFr [62, 63] h h') := by
  have hMr : M < 4294967296 := by omega
  obtain ⟨u9, f9, h_62, -⟩ := id hP
  refine zM_of zyX11_wholeOf rfl (Nat.le_of_ble_eq_true rfl) (fun X hX => ?_)
  have fr : zFr [62, 63] h h := zFr.rf
  have j14 : 0 ≤ E → (zV X (fun r h' n' => r = some (.int (iI (if wlv how s M E = 0 then 0 else s))) ∧ n' = n ∧ ND h' 62 63 (wlv how s M E) ∧ zFr [62, 63] h h') cX11_wholeOf 9 RX11 (some .int) d 0 0 14 [(0, .ref 47), (1, .int (iI (how:Nat)))] [] h n 0 0) := by
    intro hE
    obtain ⟨t, et⟩ : ∃ t : Nat, E = t := ⟨E.toNat, by omega⟩
    have eV : wlv how s M E = M * 2 ^ t := by unfold wlv; rw [if_pos hE, show E.toNat = t from by omega]
    have hP2 : M * 2 ^ t < 2 ^ 12000 := nb_mul_lt (by have : nb M ≤ 32 := nb_le (k := 32) hMr; omega)
    have hz : M * 2 ^ t = 0 ↔ s = 0 := by
      have := p_pos t
      rcases hl with ⟨q1, q2, q3⟩ | ⟨q1, q2, q3⟩
      · rw [q2]; simp [q1]
      · have := Nat.mul_pos q2 this
        constructor
        · intro z; omega
        · intro z; omega
    rw [eV]
    refine v_aload_n dX11_wholeOf_14 rfl ?_
    refine v_get fX11_100 dX11_wholeOf_15 h_47 (by decide) rfl ?_
    refine v_aload_n dX11_wholeOf_18 rfl ?_
    refine v_get fX11_7 dX11_wholeOf_19 h_47 (by decide) rfl ?_
    refine v_cV (av := [.long (jL (M:Nat))]) (st := []) zyX9_set lX11_39 h_62 rfl (p_nset (d := 1) (x := M) hP (by omega) (by omega) (by omega)) dX11_wholeOf_22 rfl rfl (Nat.le_of_ble_eq_true rfl) (by omega) (Nat.le_of_ble_eq_true rfl) (Nat.le_of_ble_eq_true rfl) (Or.inl (fun _ _ _ q => ZN q)) (fun r9 G1 n9 q9 => ?_)
    obtain ⟨rfl, q9n, hA, fr9⟩ := q9
    have q9n := q9n.symm
    subst q9n
    have h_47 := (fr9 47 (by decide)).trans h_47
    have fr := fr.tr fr9 (by decide)
    obtain ⟨u8, f8, h_62, -⟩ := id hA
    have fin : (zV X (fun r h' n' => r = some (.int (iI (if wlv how s M E = 0 then 0 else s))) ∧ n' = n ∧ ND h' 62 63 (wlv how s M E) ∧ zFr [62, 63] h h') cX11_wholeOf 9 RX11 (some .int) d 0 0 44 [(0, .ref 47), (1, .int (iI (how:Nat)))] [.int (iI (t:Nat)), .ref 62] G1 n 0 0) := by
      rw [eV]
      refine v_cV (av := [.int (iI (t:Nat))]) (st := []) zyX9_shift lX11_71 h_62 rfl (p_nshift (d := 1) hA (by decide) (by omega) hP2) dX11_wholeOf_44 rfl rfl (Nat.le_of_ble_eq_true rfl) (by omega) (Nat.le_of_ble_eq_true rfl) (Nat.le_of_ble_eq_true rfl) (Or.inl (fun _ _ _ q => ZN q)) (fun r9 G2 n9 q9 => ?_)
      obtain ⟨rfl, q9n, hA, fr8⟩ := q9
      have q9n := q9n.symm
      subst q9n
      have h_47 := (fr8 47 (by decide)).trans h_47
      refine v_aload_n dX11_wholeOf_47 rfl ?_
      refine v_get fX11_17 dX11_wholeOf_48 h_47 (by decide) rfl ?_
      have e8 : (if M * 2 ^ t = 0 then 0 else s) = s := by
        by_cases z : M * 2 ^ t = 0
        · rw [if_pos z, hz.mp z]
        · rw [if_neg z]
      exact v_iret dX11_wholeOf_51 trivial (Nat.le_of_ble_eq_true rfl) (Nat.le_of_ble_eq_true rfl) ⟨by rw [e8], rfl, hA, fr.tr fr8 (by decide)⟩
    rw [eV] at fin
    refine v_aload_n dX11_wholeOf_25 rfl ?_
    refine v_get fX11_100 dX11_wholeOf_26 h_47 (by decide) rfl ?_
    refine v_aload_n dX11_wholeOf_29 rfl ?_
    refine v_get fX11_17 dX11_wholeOf_30 h_47 (by decide) rfl ?_
    refine w_if_ne 40 dX11_wholeOf_33 (by decide) (by omega) (fun c1 => ?_) (fun c1 => ?_)
    · skip
      refine v_aload_n dX11_wholeOf_40 rfl ?_
      refine v_get fX11_13 dX11_wholeOf_41 h_47 (by decide) rfl ?_
      refine w_ei (t:Nat) et ?_
      exact fin
    · skip
      refine v_iconst (iI 0) dX11_wholeOf_36 rfl ?_
      refine v_goto 44 dX11_wholeOf_37 (by decide) ?_
      refine w_ei (t:Nat) (by omega) ?_
      exact fin
  refine v_aload_n dX11_wholeOf_0 rfl ?_
  refine v_get fX11_17 dX11_wholeOf_1 h_47 (by decide) rfl ?_
  refine w_if_eq 14 dX11_wholeOf_4 (by decide) (by omega) (fun c1 => ?_) (fun c1 => ?_)
  · exact j14 (by omega)
  · skip
    refine v_aload_n dX11_wholeOf_7 rfl ?_
    refine v_get fX11_13 dX11_wholeOf_8 h_47 (by decide) rfl ?_
    refine w_if_lt 52 dX11_wholeOf_11 (by decide) (by omega) (fun c2 => ?_) (fun c2 => ?_)
    · obtain ⟨t, et⟩ : ∃ t : Nat, -E = t := ⟨(-E).toNat, by omega⟩
      have hs : s = 1 ∨ s = -1 := by omega
      have hM0 : 0 < M := by omega
      have ht : 1 ≤ t ∧ t ≤ 120 := by omega
      have eV : wlv how s M E = M / 2 ^ t + b2n (wup how (decide (0 < s)) M t) := by unfold wlv; rw [if_neg (by omega), show (-E).toNat = t from by omega]
      obtain ⟨T, eT⟩ : ∃ T, 2 ^ t = T := ⟨_, rfl⟩
      have hT0 : 0 < T := by rw [← eT]; exact p_pos t
      have hbig : 40 < t → 2 * M < T := fun z => by
        have : 2 ^ 41 ≤ 2 ^ t := Nat.pow_le_pow_right (by decide) (by omega)
        rw [eT] at this; omega
      have hsm : t ≤ 40 → T ≤ 1099511627776 := fun z => by
        have : 2 ^ t ≤ 2 ^ 40 := Nat.pow_le_pow_right (by decide) z
        rw [eT] at this; exact this
      have dm := Nat.div_add_mod M T
      have ml := Nat.mod_lt M hT0
      have dl : M / T ≤ M := Nat.div_le_self _ _
      obtain ⟨q, eq⟩ : ∃ q, M / T = q := ⟨_, rfl⟩
      obtain ⟨r0, er⟩ : ∃ r0, M % T = r0 := ⟨_, rfl⟩
      rw [eq] at dl
      rw [eq, er] at dm
      rw [er] at ml
      obtain ⟨Tq, eTq⟩ : ∃ Tq, T * q = Tq := ⟨_, rfl⟩
      rw [eTq] at dm
      have hq0 : 40 < t → q = 0 ∧ r0 = M := fun z => by
        have := hbig z
        have h1 : M / T = 0 := Nat.div_eq_of_lt (by omega)
        have h2 : M % T = M := Nat.mod_eq_of_lt (by omega)
        omega
      have eW : wup how (decide (0 < s)) M t = if how = 3 then decide (T < 2 * r0) || (decide (2 * r0 = T) && decide (q % 2 = 1)) else decide (r0 ≠ 0) && (decide (how = 5) == decide (0 < s)) := by unfold wup; rw [eT, er, eq]
      rw [eT, eq] at eV
      refine v_aload_n dX11_wholeOf_52 rfl ?_
      refine v_get fX11_13 dX11_wholeOf_53 h_47 (by decide) rfl ?_
      refine w_ineg dX11_wholeOf_56 ?_
      refine w_ei (t:Nat) et ?_
      have j74 : (zV X (fun r h' n' => r = some (.int (iI (if wlv how s M E = 0 then 0 else s))) ∧ n' = n ∧ ND h' 62 63 (wlv how s M E) ∧ zFr [62, 63] h h') cX11_wholeOf 9 RX11 (some .int) d 0 0 74 [(0, .ref 47), (1, .int (iI (how:Nat))), (2, .int (iI (t:Nat)))] [.long (jL (q:Nat))] h n 0 0) := by
        have j97 : (zV X (fun r h' n' => r = some (.int (iI (if wlv how s M E = 0 then 0 else s))) ∧ n' = n ∧ ND h' 62 63 (wlv how s M E) ∧ zFr [62, 63] h h') cX11_wholeOf 9 RX11 (some .int) d 0 0 97 [(0, .ref 47), (1, .int (iI (how:Nat))), (2, .int (iI (t:Nat))), (3, .long (jL (q:Nat)))] [.int (iI (bz (decide (r0 = 0))))] h n 0 0) := by
          have j206 : ∀ up : Bool, up = wup how (decide (0 < s)) M t → (zV X (fun r h' n' => r = some (.int (iI (if wlv how s M E = 0 then 0 else s))) ∧ n' = n ∧ ND h' 62 63 (wlv how s M E) ∧ zFr [62, 63] h h') cX11_wholeOf 9 RX11 (some .int) d 0 0 206 [(0, .ref 47), (3, .long (jL (q:Nat))), (6, .int (iI (bz up)))] [] h n 0 0) := by
            intro up eup
            rw [eV, ← eup]
            have fin : ∀ z : Nat, z = b2n up → (zV X (fun r h' n' => r = some (.int (iI (if wlv how s M E = 0 then 0 else s))) ∧ n' = n ∧ ND h' 62 63 (wlv how s M E) ∧ zFr [62, 63] h h') cX11_wholeOf 9 RX11 (some .int) d 0 0 217 [(0, .ref 47), (6, .int (iI (bz up)))] [.long (jL (z:Nat)), .long (jL (q:Nat))] h n 0 0) := by
              intro z ez
              rw [eV, ← eup, ← ez]
              have hz1 : z ≤ 1 := by rw [ez]; cases up <;> decide
              refine w_ladd dX11_wholeOf_217 ?_
              refine w_el (q + z:Nat) (by omega) ?_
              refine v_lstore_n (i := 3) (lv' := [(3, .long (jL (q + z:Nat))), (0, .ref 47), (6, .int (iI (bz up)))]) dX11_wholeOf_218 rfl (by decide) rfl ?_
              refine v_aload_n dX11_wholeOf_219 rfl ?_
              refine v_get fX11_100 dX11_wholeOf_220 h_47 (by decide) rfl ?_
              refine v_lload_n dX11_wholeOf_223 rfl ?_
              refine v_cV (av := [.long (jL (q + z:Nat))]) (st := []) zyX9_set lX11_39 h_62 rfl (p_nset (d := 1) (x := q + z) hP (by omega) (by omega) (by omega)) dX11_wholeOf_224 rfl rfl (Nat.le_of_ble_eq_true rfl) (by omega) (Nat.le_of_ble_eq_true rfl) (Nat.le_of_ble_eq_true rfl) (Or.inl (fun _ _ _ q => ZN q)) (fun r9 G1 n9 q9 => ?_)
              obtain ⟨rfl, q9n, hA, fr9⟩ := q9
              have q9n := q9n.symm
              subst q9n
              have h_47 := (fr9 47 (by decide)).trans h_47
              refine v_lload_n dX11_wholeOf_227 rfl ?_
              refine v_lconst (jL 0) dX11_wholeOf_228 rfl ?_
              refine w_lcmp_ne 237 dX11_wholeOf_229 dX11_wholeOf_230 (by decide) (by omega) (by decide) (fun d1 => ?_) (fun d1 => ?_)
              · skip
                refine v_aload_n dX11_wholeOf_237 rfl ?_
                refine v_get fX11_17 dX11_wholeOf_238 h_47 (by decide) rfl ?_
                exact v_iret dX11_wholeOf_241 trivial (Nat.le_of_ble_eq_true rfl) (Nat.le_of_ble_eq_true rfl) ⟨by rw [if_neg (by omega)], rfl, hA, fr.tr fr9 (by decide)⟩
              · skip
                refine v_iconst (iI 0) dX11_wholeOf_233 rfl ?_
                refine v_goto 241 dX11_wholeOf_234 (by decide) ?_
                exact v_iret dX11_wholeOf_241 trivial (Nat.le_of_ble_eq_true rfl) (Nat.le_of_ble_eq_true rfl) ⟨by rw [if_pos (by omega)], rfl, hA, fr.tr fr9 (by decide)⟩
            rw [eV, ← eup] at fin
            refine v_lload_n dX11_wholeOf_206 rfl ?_
            refine v_iload dX11_wholeOf_207 rfl ?_
            refine w_ifb_eq 216 dX11_wholeOf_209 (by decide) (fun d2 => ?_) (fun d2 => ?_)
            · skip
              refine v_lconst (jL 0) dX11_wholeOf_216 rfl ?_
              refine w_sub (lv2 := [(0, .ref 47), (6, .int (iI (bz up)))]) [0, 2] rfl ?_
              exact fin 0 (by rw [d2]; rfl)
            · skip
              refine v_lconst (jL 1) dX11_wholeOf_212 rfl ?_
              refine v_goto 217 dX11_wholeOf_213 (by decide) ?_
              refine w_sub (lv2 := [(0, .ref 47), (6, .int (iI (bz up)))]) [0, 2] rfl ?_
              exact fin 1 (by rw [d2]; rfl)
          refine v_istore (i := 5) (lv' := [(5, .int (iI (bz (decide (r0 = 0))))), (0, .ref 47), (1, .int (iI (how:Nat))), (2, .int (iI (t:Nat))), (3, .long (jL (q:Nat)))]) dX11_wholeOf_97 (by decide) rfl ?_
          refine v_iload_n dX11_wholeOf_99 rfl ?_
          refine v_iconst (iI 3) dX11_wholeOf_100 rfl ?_
          refine w_icmp_ne 169 dX11_wholeOf_101 (by decide) (by omega) (by decide) (fun d1 => ?_) (fun d1 => ?_)
          · rw [if_neg (by omega)] at eW
            refine v_iload dX11_wholeOf_169 rfl ?_
            refine w_ifb_ne 203 dX11_wholeOf_171 (by decide) (fun d2 => ?_) (fun d2 => ?_)
            · have d2 := of_decide_eq_true d2
              refine v_iconst (iI 0) dX11_wholeOf_203 rfl ?_
              refine w_ei (bz false) rfl ?_
              refine v_istore (i := 6) (lv' := [(6, .int (iI (bz false))), (5, .int (iI (bz (decide (r0 = 0))))), (0, .ref 47), (1, .int (iI (how:Nat))), (2, .int (iI (t:Nat))), (3, .long (jL (q:Nat)))]) dX11_wholeOf_204 (by decide) rfl ?_
              refine w_sub (lv2 := [(0, .ref 47), (3, .long (jL (q:Nat))), (6, .int (iI (bz false)))]) [2, 5, 0] rfl ?_
              exact j206 false (by rw [eW, decide_eq_false (show ¬ r0 ≠ 0 by omega), Bool.false_and])
            · have d2 := of_decide_eq_false d2
              refine v_iload_n dX11_wholeOf_174 rfl ?_
              refine v_iconst (iI 5) dX11_wholeOf_175 rfl ?_
              refine w_icmp_ne 183 dX11_wholeOf_176 (by decide) (by omega) (by decide) (fun d3 => ?_) (fun d3 => ?_)
              · skip
                refine v_iconst (iI 0) dX11_wholeOf_183 rfl ?_
                refine v_aload_n dX11_wholeOf_184 rfl ?_
                refine v_get fX11_17 dX11_wholeOf_185 h_47 (by decide) rfl ?_
                refine w_if_le 195 dX11_wholeOf_188 (by decide) (by omega) (fun d4 => ?_) (fun d4 => ?_)
                · skip
                  refine v_iconst (iI 0) dX11_wholeOf_195 rfl ?_
                  refine w_icmp_ne 203 dX11_wholeOf_196 (by decide) (by decide) (by decide) (fun d5 => ?_) (fun d5 => ?_)
                  · exact absurd d5 (by decide)
                  · skip
                    refine v_iconst (iI 1) dX11_wholeOf_199 rfl ?_
                    refine v_goto 204 dX11_wholeOf_200 (by decide) ?_
                    refine w_ei (bz true) rfl ?_
                    refine v_istore (i := 6) (lv' := [(6, .int (iI (bz true))), (5, .int (iI (bz (decide (r0 = 0))))), (0, .ref 47), (1, .int (iI (how:Nat))), (2, .int (iI (t:Nat))), (3, .long (jL (q:Nat)))]) dX11_wholeOf_204 (by decide) rfl ?_
                    refine w_sub (lv2 := [(0, .ref 47), (3, .long (jL (q:Nat))), (6, .int (iI (bz true)))]) [2, 5, 0] rfl ?_
                    exact j206 true (by rw [eW, decide_eq_true d2, decide_eq_false (show ¬ how = 5 by omega), decide_eq_false (show ¬ 0 < s by omega)]; rfl)
                · skip
                  refine v_iconst (iI 1) dX11_wholeOf_191 rfl ?_
                  refine v_goto 196 dX11_wholeOf_192 (by decide) ?_
                  refine w_icmp_ne 203 dX11_wholeOf_196 (by decide) (by decide) (by decide) (fun d5 => ?_) (fun d5 => ?_)
                  · skip
                    refine v_iconst (iI 0) dX11_wholeOf_203 rfl ?_
                    refine w_ei (bz false) rfl ?_
                    refine v_istore (i := 6) (lv' := [(6, .int (iI (bz false))), (5, .int (iI (bz (decide (r0 = 0))))), (0, .ref 47), (1, .int (iI (how:Nat))), (2, .int (iI (t:Nat))), (3, .long (jL (q:Nat)))]) dX11_wholeOf_204 (by decide) rfl ?_
                    refine w_sub (lv2 := [(0, .ref 47), (3, .long (jL (q:Nat))), (6, .int (iI (bz false)))]) [2, 5, 0] rfl ?_
                    exact j206 false (by rw [eW, decide_eq_false (show ¬ how = 5 by omega), decide_eq_true (show 0 < s by omega)]; rw [show (false == true) = false from rfl, Bool.and_false])
                  · exact absurd d5 (by decide)
              · skip
                refine v_iconst (iI 1) dX11_wholeOf_179 rfl ?_
                refine v_goto 184 dX11_wholeOf_180 (by decide) ?_
                refine v_aload_n dX11_wholeOf_184 rfl ?_
                refine v_get fX11_17 dX11_wholeOf_185 h_47 (by decide) rfl ?_
                refine w_if_le 195 dX11_wholeOf_188 (by decide) (by omega) (fun d4 => ?_) (fun d4 => ?_)
                · skip
                  refine v_iconst (iI 0) dX11_wholeOf_195 rfl ?_
                  refine w_icmp_ne 203 dX11_wholeOf_196 (by decide) (by decide) (by decide) (fun d5 => ?_) (fun d5 => ?_)
                  · skip
                    refine v_iconst (iI 0) dX11_wholeOf_203 rfl ?_
                    refine w_ei (bz false) rfl ?_
                    refine v_istore (i := 6) (lv' := [(6, .int (iI (bz false))), (5, .int (iI (bz (decide (r0 = 0))))), (0, .ref 47), (1, .int (iI (how:Nat))), (2, .int (iI (t:Nat))), (3, .long (jL (q:Nat)))]) dX11_wholeOf_204 (by decide) rfl ?_
                    refine w_sub (lv2 := [(0, .ref 47), (3, .long (jL (q:Nat))), (6, .int (iI (bz false)))]) [2, 5, 0] rfl ?_
                    exact j206 false (by rw [eW, decide_eq_true (show how = 5 by omega), decide_eq_false (show ¬ 0 < s by omega)]; rw [show (true == false) = false from rfl, Bool.and_false])
                  · exact absurd d5 (by decide)
                · skip
                  refine v_iconst (iI 1) dX11_wholeOf_191 rfl ?_
                  refine v_goto 196 dX11_wholeOf_192 (by decide) ?_
                  refine w_icmp_ne 203 dX11_wholeOf_196 (by decide) (by decide) (by decide) (fun d5 => ?_) (fun d5 => ?_)
                  · exact absurd d5 (by decide)
                  · skip
                    refine v_iconst (iI 1) dX11_wholeOf_199 rfl ?_
                    refine v_goto 204 dX11_wholeOf_200 (by decide) ?_
                    refine w_ei (bz true) rfl ?_
                    refine v_istore (i := 6) (lv' := [(6, .int (iI (bz true))), (5, .int (iI (bz (decide (r0 = 0))))), (0, .ref 47), (1, .int (iI (how:Nat))), (2, .int (iI (t:Nat))), (3, .long (jL (q:Nat)))]) dX11_wholeOf_204 (by decide) rfl ?_
                    refine w_sub (lv2 := [(0, .ref 47), (3, .long (jL (q:Nat))), (6, .int (iI (bz true)))]) [2, 5, 0] rfl ?_
                    exact j206 true (by rw [eW, decide_eq_true d2, decide_eq_true (show how = 5 by omega), decide_eq_true (show 0 < s by omega)]; rfl)
          · rw [if_pos (by omega)] at eW
            have j133 : ∀ hf : Int, (hf = -1 ∧ 2 * r0 < T) ∨ (hf = 0 ∧ 2 * r0 = T) ∨ (hf = 1 ∧ T < 2 * r0) → (zV X (fun r h' n' => r = some (.int (iI (if wlv how s M E = 0 then 0 else s))) ∧ n' = n ∧ ND h' 62 63 (wlv how s M E) ∧ zFr [62, 63] h h') cX11_wholeOf 9 RX11 (some .int) d 0 0 133 [(0, .ref 47), (3, .long (jL (q:Nat)))] [.long (jL hf)] h n 0 0) := by
              intro hf hhf
              have fin : ∀ up : Bool, up = wup how (decide (0 < s)) M t → (zV X (fun r h' n' => r = some (.int (iI (if wlv how s M E = 0 then 0 else s))) ∧ n' = n ∧ ND h' 62 63 (wlv how s M E) ∧ zFr [62, 63] h h') cX11_wholeOf 9 RX11 (some .int) d 0 0 164 [(0, .ref 47), (3, .long (jL (q:Nat))), (7, .long (jL hf))] [.int (iI (bz up))] h n 0 0) := by
                intro up eup
                refine v_istore (i := 6) (lv' := [(6, .int (iI (bz up))), (0, .ref 47), (3, .long (jL (q:Nat))), (7, .long (jL hf))]) dX11_wholeOf_164 (by decide) rfl ?_
                refine v_goto 206 dX11_wholeOf_166 (by decide) ?_
                refine w_sub (lv2 := [(0, .ref 47), (3, .long (jL (q:Nat))), (6, .int (iI (bz up)))]) [1, 2, 0] rfl ?_
                exact j206 up eup
              refine v_lstore (i := 7) (lv' := [(7, .long (jL hf)), (0, .ref 47), (3, .long (jL (q:Nat)))]) dX11_wholeOf_133 (by decide) rfl ?_
              refine w_sub (lv2 := [(0, .ref 47), (3, .long (jL (q:Nat))), (7, .long (jL hf))]) [1, 2, 0] rfl ?_
              refine v_lload dX11_wholeOf_135 rfl ?_
              refine v_lconst (jL 0) dX11_wholeOf_137 rfl ?_
              refine w_lcmp_gt 159 dX11_wholeOf_138 dX11_wholeOf_139 (by decide) (by omega) (by decide) (fun g1 => ?_) (fun g1 => ?_)
              · skip
                refine v_iconst (iI 1) dX11_wholeOf_159 rfl ?_
                refine v_goto 164 dX11_wholeOf_160 (by decide) ?_
                refine w_ei (bz true) rfl ?_
                exact fin true (by rw [eW, decide_eq_true (show T < 2 * r0 by omega), Bool.true_or])
              · skip
                refine v_lload dX11_wholeOf_142 rfl ?_
                refine v_lconst (jL 0) dX11_wholeOf_144 rfl ?_
                refine w_lcmp_ne 163 dX11_wholeOf_145 dX11_wholeOf_146 (by decide) (by omega) (by decide) (fun g2 => ?_) (fun g2 => ?_)
                · skip
                  refine v_iconst (iI 0) dX11_wholeOf_163 rfl ?_
                  refine w_ei (bz false) rfl ?_
                  exact fin false (by rw [eW, decide_eq_false (show ¬ T < 2 * r0 by omega), decide_eq_false (show ¬ 2 * r0 = T by omega)]; rfl)
                · skip
                  refine v_lload_n dX11_wholeOf_149 rfl ?_
                  refine v_ldc2_w (v := jL 2) kX11_89 dX11_wholeOf_150 ?_
                  refine w_lremn dX11_wholeOf_153 (by omega) (by decide) ?_
                  refine v_lconst (jL 1) dX11_wholeOf_154 rfl ?_
                  refine w_lcmp_ne 163 dX11_wholeOf_155 dX11_wholeOf_156 (by decide) (by omega) (by decide) (fun g3 => ?_) (fun g3 => ?_)
                  · skip
                    refine v_iconst (iI 0) dX11_wholeOf_163 rfl ?_
                    refine w_ei (bz false) rfl ?_
                    exact fin false (by rw [eW, decide_eq_false (show ¬ T < 2 * r0 by omega), decide_eq_false (show ¬ q % 2 = 1 by omega), Bool.and_false]; rfl)
                  · skip
                    refine v_iconst (iI 1) dX11_wholeOf_159 rfl ?_
                    refine v_goto 164 dX11_wholeOf_160 (by decide) ?_
                    refine w_ei (bz true) rfl ?_
                    exact fin true (by rw [eW, decide_eq_true (show 2 * r0 = T by omega), decide_eq_true (show q % 2 = 1 by omega)]; rw [Bool.true_and, Bool.or_true])
            refine v_iload_n dX11_wholeOf_104 rfl ?_
            refine v_bipush (iI 40) dX11_wholeOf_105 rfl ?_
            refine w_icmp_le 116 dX11_wholeOf_107 (by decide) (by omega) (by decide) (fun d2 => ?_) (fun d2 => ?_)
            · have hT9 := hsm (by omega)
              refine v_aload_n dX11_wholeOf_116 rfl ?_
              refine v_get fX11_7 dX11_wholeOf_117 h_47 (by decide) rfl ?_
              refine v_lload_n dX11_wholeOf_120 rfl ?_
              refine v_iload_n dX11_wholeOf_121 rfl ?_
              refine w_lshl dX11_wholeOf_122 t (2 ^ t) rfl (by omega) (by omega) ?_
              refine w_el (Tq:Nat) (by rw [ipw, eT, ← eTq, Nat.mul_comm, Int.natCast_mul]) ?_
              refine w_lsub dX11_wholeOf_123 ?_
              refine w_el (r0:Nat) (by omega) ?_
              refine v_iconst (iI 1) dX11_wholeOf_124 rfl ?_
              refine w_lshl dX11_wholeOf_125 1 2 rfl rfl (by decide) ?_
              refine w_el (2 * r0:Nat) (by omega) ?_
              refine v_lconst (jL 1) dX11_wholeOf_126 rfl ?_
              refine v_iload_n dX11_wholeOf_127 rfl ?_
              refine w_lshl dX11_wholeOf_128 t (2 ^ t) rfl (by omega) (by omega) ?_
              refine w_el (T:Nat) (by rw [ipw, eT]; omega) ?_
              refine v_cS (av := [.long (jL (2 * r0:Nat)), .long (jL (T:Nat))]) (st := []) zyJ13_compare_74951 lX11_190 (p_cmpL (d := 1) (a := (2 * r0 : Nat)) (b := (T : Nat)) (by omega) (by omega)) dX11_wholeOf_129 rfl rfl (Nat.le_of_ble_eq_true rfl) (by omega) (Nat.le_of_ble_eq_true rfl) (Nat.le_of_ble_eq_true rfl) (Or.inl (fun _ _ _ q => ZN q)) (fun r9 K1 n9 q9 => ?_)
              obtain ⟨rfl, q9n, q9h⟩ := q9
              have q9n := q9n.symm
              subst q9n
              have q9h := q9h.symm
              subst q9h
              have hcm : ∃ hf : Int, cmpI (2 * r0 : Nat) (T : Nat) = hf ∧ ((hf = -1 ∧ 2 * r0 < T) ∨ (hf = 0 ∧ 2 * r0 = T) ∨ (hf = 1 ∧ T < 2 * r0)) := by
                refine ⟨_, rfl, ?_⟩
                unfold cmpI
                rcases Nat.lt_trichotomy (2 * r0) T with z | z | z
                · left; rw [if_pos (by omega)]; exact ⟨rfl, z⟩
                · right; left; rw [if_neg (by omega)]; first | (rw [if_pos (by omega)]; exact ⟨rfl, z⟩) | (rw [if_neg (by omega)]; exact ⟨rfl, z⟩)
                · right; right; rw [if_neg (by omega)]; first | (rw [if_neg (by omega)]; exact ⟨rfl, z⟩) | (rw [if_pos (by omega)]; exact ⟨rfl, z⟩)
              obtain ⟨hf, ehf, hhf⟩ := hcm
              rw [ehf]
              refine w_ei hf rfl ?_
              refine w_i2l dX11_wholeOf_132 (by omega) ?_
              refine w_sub (lv2 := [(0, .ref 47), (3, .long (jL (q:Nat)))]) [1, 4] rfl ?_
              exact j133 hf hhf
            · have z := hq0 (by omega)
              have z2 := hbig (by omega)
              refine v_ldc2_w (v := jL (-1)) (by rw [show jL (-1) = (-1 : Int64) from by decide]; exact kX11_188) dX11_wholeOf_110 ?_
              refine v_goto 133 dX11_wholeOf_113 (by decide) ?_
              refine w_sub (lv2 := [(0, .ref 47), (3, .long (jL (q:Nat)))]) [1, 4] rfl ?_
              exact j133 (-1) (Or.inl ⟨rfl, by omega⟩)
        refine v_lstore_n (i := 3) (lv' := [(3, .long (jL (q:Nat))), (0, .ref 47), (1, .int (iI (how:Nat))), (2, .int (iI (t:Nat)))]) dX11_wholeOf_74 rfl (by decide) rfl ?_
        refine w_sub (lv2 := [(0, .ref 47), (1, .int (iI (how:Nat))), (2, .int (iI (t:Nat))), (3, .long (jL (q:Nat)))]) [1, 2, 3, 0] rfl ?_
        refine v_iload_n dX11_wholeOf_75 rfl ?_
        refine v_bipush (iI 40) dX11_wholeOf_76 rfl ?_
        refine w_icmp_gt 96 dX11_wholeOf_78 (by decide) (by omega) (by decide) (fun d1 => ?_) (fun d1 => ?_)
        · have z := hq0 (by omega)
          refine v_iconst (iI 0) dX11_wholeOf_96 rfl ?_
          refine w_ei (bz false) rfl ?_
          refine w_ei (bz (decide (r0 = 0))) (by rw [decide_eq_false (show ¬ r0 = 0 by omega)]) ?_
          exact j97
        · have hT9 := hsm (by omega)
          refine v_lload_n dX11_wholeOf_81 rfl ?_
          refine v_iload_n dX11_wholeOf_82 rfl ?_
          refine w_lshl dX11_wholeOf_83 t (2 ^ t) rfl (by omega) (by omega) ?_
          refine w_el (Tq:Nat) (by rw [ipw, eT, ← eTq, Nat.mul_comm, Int.natCast_mul]) ?_
          refine v_aload_n dX11_wholeOf_84 rfl ?_
          refine v_get fX11_7 dX11_wholeOf_85 h_47 (by decide) rfl ?_
          refine w_lcmp_ne 96 dX11_wholeOf_88 dX11_wholeOf_89 (by decide) (by omega) (by omega) (fun d2 => ?_) (fun d2 => ?_)
          · skip
            refine v_iconst (iI 0) dX11_wholeOf_96 rfl ?_
            refine w_ei (bz false) rfl ?_
            refine w_ei (bz (decide (r0 = 0))) (by rw [decide_eq_false (show ¬ r0 = 0 by omega)]) ?_
            exact j97
          · skip
            refine v_iconst (iI 1) dX11_wholeOf_92 rfl ?_
            refine v_goto 97 dX11_wholeOf_93 (by decide) ?_
            refine w_ei (bz true) rfl ?_
            refine w_ei (bz (decide (r0 = 0))) (by rw [decide_eq_true (show r0 = 0 by omega)]) ?_
            exact j97
      refine v_istore_n (i := 2) (lv' := [(2, .int (iI (t:Nat))), (0, .ref 47), (1, .int (iI (how:Nat)))]) dX11_wholeOf_57 rfl (by decide) rfl ?_
      refine w_sub (lv2 := [(0, .ref 47), (1, .int (iI (how:Nat))), (2, .int (iI (t:Nat)))]) [1, 2, 0] rfl ?_
      refine v_iload_n dX11_wholeOf_58 rfl ?_
      refine v_bipush (iI 40) dX11_wholeOf_59 rfl ?_
      refine w_icmp_le 68 dX11_wholeOf_61 (by decide) (by omega) (by decide) (fun d0 => ?_) (fun d0 => ?_)
      · skip
        refine v_aload_n dX11_wholeOf_68 rfl ?_
        refine v_get fX11_7 dX11_wholeOf_69 h_47 (by decide) rfl ?_
        refine v_iload_n dX11_wholeOf_72 rfl ?_
        refine w_lshr dX11_wholeOf_73 t (2 ^ t) rfl (by omega) (by omega) (by omega) ?_
        refine w_el (q:Nat) (by rw [ipw, eT, ← eq, Int.natCast_ediv]) ?_
        exact j74
      · have z := hq0 (by omega)
        refine v_lconst (jL 0) dX11_wholeOf_64 rfl ?_
        refine v_goto 74 dX11_wholeOf_65 (by decide) ?_
        refine w_el (q:Nat) (by omega) ?_
        exact j74
    · exact j14 (by omega)
