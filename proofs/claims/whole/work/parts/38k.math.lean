/-! Mathematics: what is written -/
theorem k_ex {R T : Nat} (hR : 0 < R) : ∀ m : Nat, T ≤ R * 10 ^ m → ∃ k, k ≤ m ∧ T ≤ R * 10 ^ k ∧ ∀ i, i < k → R * 10 ^ i < T
  | 0, h => ⟨0, Nat.le_refl _, h, fun i hi => absurd hi (by omega)⟩
  | m + 1, h => by
    rcases Nat.lt_or_ge (R * 10 ^ m) T with z | z
    · refine ⟨m + 1, Nat.le_refl _, h, fun i hi => ?_⟩
      have : R * 10 ^ i ≤ R * 10 ^ m := Nat.mul_le_mul_left _ (Nat.pow_le_pow_right (by decide) (by omega))
      omega
    · obtain ⟨k, h1, h2⟩ := k_ex hR m z
      exact ⟨k, by omega, h2⟩
/-- the scale of a value R / 2^120 -/
theorem jk_ex {R : Nat} (hR : 0 < R) (hR2 : R ≤ 2 ^ 240) : ∃ j k, j < 60 ∧ k < 60 ∧ (∀ i, i < j → 1 * 2 ^ 120 * 10 ^ (i + 1) ≤ R) ∧ R < 1 * 2 ^ 120 * 10 ^ (j + 1) ∧ (∀ i, i < k → R * 10 ^ i < 1 * 2 ^ 120 * 10 ^ j) ∧ 1 * 2 ^ 120 * 10 ^ j ≤ R * 10 ^ k ∧ R * 10 ^ k < 1 * 2 ^ 120 * 10 ^ (j + 1) ∧ (j = 0 ∨ k = 0) := by
  have h37 : (2 : Nat) ^ 120 < 10 ^ 37 := by decide
  rcases Nat.lt_or_ge R (2 ^ 120) with z | z
  · obtain ⟨k, k1, k2, k3⟩ := k_ex (T := 2 ^ 120) hR 37 (by
      have : 1 * 10 ^ 37 ≤ R * 10 ^ 37 := Nat.mul_le_mul_right _ hR
      omega)
    refine ⟨0, k, by decide, by omega, fun i hi => absurd hi (by omega), by omega, fun i hi => ?_, ?_, ?_, Or.inl rfl⟩
    · have := k3 i hi; omega
    · omega
    · rcases Nat.eq_zero_or_pos k with y | y
      · rw [y]; omega
      · have := k3 (k - 1) (by omega)
        have e1 : (10 : Nat) ^ k = 10 ^ (k - 1) * 10 := by rw [← Nat.pow_succ, show (k - 1).succ = k from by omega]
        rw [e1, ← Nat.mul_assoc]
        omega
  · obtain ⟨q, eq⟩ : ∃ q, R / 2 ^ 120 = q := ⟨_, rfl⟩
    have hq1 : 1 ≤ q := by rw [← eq]; exact Nat.div_pos z (p_pos 120)
    have hq2 : q < 10 ^ 37 := by
      rw [← eq]
      refine Nat.lt_of_le_of_lt (Nat.div_le_div_right hR2) ?_
      decide
    have hd := ndc_s q
    have hK := dgK_le hd hq2
    have dm := Nat.div_add_mod R (2 ^ 120)
    have ml := Nat.mod_lt R (p_pos 120)
    rw [eq] at dm
    obtain ⟨K, eK⟩ : ∃ K, ndc q = K := ⟨_, rfl⟩
    rw [eK] at hd hK
    have hK0 : K ≠ 0 := fun y => by have := hd.1; rw [y, Nat.pow_zero] at this; omega
    have low : ∀ i, i < K → 1 * 2 ^ 120 * 10 ^ i ≤ R := fun i hi => by
      have := Nat.mul_le_mul_left (2 ^ 120) (hd.2 i hi)
      omega
    have hi9 : R < 1 * 2 ^ 120 * 10 ^ K := by
      have := Nat.mul_le_mul_left (2 ^ 120) (show q + 1 ≤ 10 ^ K from hd.1)
      rw [Nat.mul_succ] at this
      omega
    refine ⟨K - 1, 0, by omega, by decide, fun i hi => low (i + 1) (by omega), ?_, fun i hi => absurd hi (by omega), ?_, ?_, Or.inr rfl⟩
    · rw [show K - 1 + 1 = K from by omega]; exact hi9
    · rw [Nat.pow_zero, Nat.mul_one]; exact low _ (by omega)
    · rw [Nat.pow_zero, Nat.mul_one, show K - 1 + 1 = K from by omega]; exact hi9
/-- one ratio told in two ways -/
theorem rat_lt {N D R T x y : Nat} (h : N * T = R * D) (hT : 0 < T) (hD : 0 < D) : N * x < D * y ↔ R * x < T * y := by
  have e1 : N * x * T = R * x * D := by rw [Nat.mul_right_comm, h, Nat.mul_right_comm]
  have e2 : D * y * T = T * y * D := by rw [Nat.mul_right_comm, Nat.mul_comm D T, Nat.mul_right_comm]
  constructor
  · intro z
    have := Nat.mul_lt_mul_of_pos_right z hT
    rw [e1, e2] at this
    exact Nat.lt_of_mul_lt_mul_right this
  · intro z
    have := Nat.mul_lt_mul_of_pos_right z hD
    rw [← e1, ← e2] at this
    exact Nat.lt_of_mul_lt_mul_right this
theorem SC_u {M : Nat} {E : Int} {j k j' k' : Nat} (h : SC M E j k) (h' : SC M E j' k') : j = j' ∧ k = k' := by
  obtain ⟨a1, a2, a3, a4, -, -⟩ := h
  obtain ⟨b1, b2, b3, b4, -, -⟩ := h'
  have hk : k = k' := by
    rcases Nat.lt_trichotomy k k' with z | z | z
    · have := b1 k z; omega
    · exact z
    · have := a1 k' z; omega
  subst hk
  refine ⟨?_, rfl⟩
  rcases Nat.lt_trichotomy j j' with z | z | z
  · have := b3 j z; omega
  · exact z
  · have := a3 j' z; omega
/-- the reference's look, by the class's parts -/
theorem lk_i {p w sg M : Nat} {ex s E : Int} (hw : 3 ≤ w ∧ w ≤ 32) (hp : p < 2 ^ w) (h0 : p ≠ 0) (h9 : p ≠ 2 ^ (w - 1)) (d : pd p w sg ex) (hl : lk p w s M E) : ∃ i : Nat, M = sg * 2 ^ i ∧ E = ex - i ∧ (s = 1 ∨ s = -1) ∧ decide (s < 0) = decide (2 ^ (w - 1) < p) := by
  unfold pd at d
  rw [if_neg (fun y => y.elim h0 h9)] at d
  have hm := ld_md d
  rcases lk_pv hl h9 with ⟨z, -⟩ | ⟨-, h2, h3, h4, h5, h6, h7, h8⟩
  · exact absurd z h0
  · obtain ⟨j1, e1, e2⟩ := hm.1
    obtain ⟨j2, e3, e4⟩ := h7
    have hj := odd_pw hm.2 (e1.trans e3.symm)
    refine ⟨j1 - j2, ?_, by omega, h2, ?_⟩
    · have e5 : M * 2 ^ j2 = sg * 2 ^ (j1 - j2) * 2 ^ j2 := by rw [e3, ← e1, Nat.mul_assoc, ← Nat.pow_add, show j1 - j2 + j2 = j1 from by omega]
      exact Nat.mul_right_cancel (p_pos j2) e5
    · rcases h2 with y | y
      · rw [y, decide_eq_false (show ¬ (1 : Int) < 0 by decide), decide_eq_false (fun q => by have := h8.mpr q; omega)]
      · rw [y, decide_eq_true (h8.mp y)]; rfl
/-- the exact decimal -/
theorem e_wf {p w sg : Nat} {ex : Int} (hw : 3 ≤ w ∧ w ≤ 32) (hp : p < 2 ^ w) (h0 : p ≠ 0) (h9 : p ≠ 2 ^ (w - 1)) (d : pd p w sg ex) : ∃ K, (-ex).toNat < K ∧ fN sg ex < 10 ^ K ∧ (∀ j, (-ex).toNat < j → j < K → 10 ^ j ≤ fN sg ex) ∧ K ≤ 150 ∧ ∀ T, wrt p w false T → T = (fR (decide (2 ^ (w - 1) < p)) (fN sg ex) (-ex).toNat K).reverse := by
  have hb := pd_b hw hp d
  have ho : sg % 2 = 1 := by
    unfold pd at d
    rw [if_neg (fun y => y.elim h0 h9)] at d
    exact (ld_md d).2
  obtain ⟨s0, es0, es1⟩ : ∃ s0 : Int, (s0 = 1 ∨ s0 = -1) ∧ decide (s0 < 0) = decide (2 ^ (w - 1) < p) := by
    by_cases z : 2 ^ (w - 1) < p
    · exact ⟨-1, Or.inr rfl, by rw [decide_eq_true z]; rfl⟩
    · exact ⟨1, Or.inl rfl, by rw [decide_eq_false z]; rfl⟩
  obtain ⟨K, k1, k2, k3, k4, -⟩ := e_ex (i := 0) (s := s0) ho hb.1 hb.2 es0
  refine ⟨K, k1, k2, k3, k4, fun T hT => ?_⟩
  rcases hT with ⟨z, -⟩ | ⟨z, -⟩ | ⟨-, -, s, M, E, hl, hM, ⟨-, hT⟩ | ⟨z, -⟩⟩
  · exact absurd z h9
  · exact absurd z h0
  · obtain ⟨i, e1, e2, e3, e4⟩ := lk_i hw hp h0 h9 d hl
    obtain ⟨K2, c1, c2, c3, c4, c5⟩ := e_ex (i := i) (s := s) ho hb.1 hb.2 e3
    have eK : K2 = K := by
      rcases Nat.lt_trichotomy K2 K with y | y | y
      · have := k3 K2 c1 y; omega
      · exact y
      · have := c3 K k1 y; omega
    rw [hT, e1, e2, ← c5, e4, eK]
  · exact absurd z (by decide)
/-- what the class wants for the shortest decimal, and what it gives -/
theorem e_ws {p w sg : Nat} {ex : Int} (hw : 3 ≤ w ∧ w ≤ 32) (hp : p < 2 ^ w) (h0 : p ≠ 0) (h9 : p ≠ 2 ^ (w - 1)) (d : pd p w sg ex) : ∃ u EL EH R B A j k : Nat, (0 < u ∧ u < 2 ^ (w - 1)) ∧ u = cond (decide (2 ^ (w - 1) < p)) (2 ^ w - p) p ∧ sg * 2 ^ (ex + 120).toNat = R ∧ R < 2 ^ 300 ∧
    (u ≠ 1 → (∀ (s : Nat) (x : Int), ld (2 * u - 1) (w + 1) s x → -120 ≤ x ∧ x ≤ 120 ∧ s * 2 ^ (x + 120).toNat = EL) ∧ EL ≤ R) ∧ (u ≠ 2 ^ (w - 1) - 1 → (∀ (s : Nat) (x : Int), ld (2 * u + 1) (w + 1) s x → -120 ≤ x ∧ x ≤ 120 ∧ s * 2 ^ (x + 120).toNat = EH) ∧ R ≤ EH ∧ EH < 2 ^ 300) ∧
    (if u = 1 then 0 else R - EL) = B ∧ (if u = 2 ^ (w - 1) - 1 then 0 else EH - R) = A ∧ j < 60 ∧ k < 60 ∧ (∀ i, i < j → 1 * 2 ^ 120 * 10 ^ (i + 1) ≤ R) ∧ R < 1 * 2 ^ 120 * 10 ^ (j + 1) ∧ (∀ i, i < k → R * 10 ^ i < 1 * 2 ^ 120 * 10 ^ j) ∧ 1 * 2 ^ 120 * 10 ^ j ≤ R * 10 ^ k ∧ R * 10 ^ k < 1 * 2 ^ 120 * 10 ^ (j + 1) ∧
    wrS p w ∧ ∀ T, wrt p w true T → T = shT (decide (u = 1)) (decide (u = 2 ^ (w - 1) - 1)) (decide (u % 2 = 0)) (decide (2 ^ (w - 1) < p)) (1 * 2 ^ 120 * 10 ^ j) (R * 10 ^ k) (B * 10 ^ k) (A * 10 ^ k) ((j : Int) - k) := by
  have hb := pd_b hw hp d
  have hv := pd_v hw hp h9 d
  have hd2 : ld (pmag p w) w sg ex := by
    have d2 := d
    unfold pd at d2
    rw [if_neg (fun y => y.elim h0 h9)] at d2
    exact d2
  obtain ⟨hu, hu2⟩ := pm_b hw hp h0 h9
  have e2w : 2 ^ w = 2 * 2 ^ (w - 1) := pw2 (by omega)
  have eu : pmag p w = cond (decide (2 ^ (w - 1) < p)) (2 ^ w - p) p := by
    unfold pmag
    by_cases z : 2 ^ (w - 1) < p
    · rw [if_pos z, decide_eq_true z]; rfl
    · rw [if_neg z, decide_eq_false z]; rfl
  obtain ⟨u, eu2⟩ : ∃ u, pmag p w = u := ⟨_, rfl⟩
  rw [eu2] at hu hu2 eu hd2
  have hlb := ld_b (by omega) hu hu2 (fun y => by omega) hd2
  have vR := uv_md (ld_md hd2).1 hlb.2.2.1 hlb.1
  obtain ⟨R, eR⟩ : ∃ R, sg * 2 ^ (ex + 120).toNat = R := ⟨_, rfl⟩
  rw [eR] at vR
  have hR0 : 0 < R := by rw [← eR]; exact Nat.mul_pos hlb.1 (p_pos _)
  have hR1 : R ≤ 2 ^ 240 := by rw [← vR]; exact uv_le hw hu hu2
  have hR3 : R < 2 ^ 300 := Nat.lt_of_le_of_lt hR1 (Nat.pow_lt_pow_right (by decide) (by decide))
  have hw1 : 2 ^ (w + 1 - 1) = 2 * 2 ^ (w - 1) := pw2 (by omega)
  have e73 : 2 ^ (73 - w) = 2 * 2 ^ (73 - (w + 1)) := pw2 (by omega)
  have h31 : 2 ^ (w - 1) ≤ 2 ^ 31 := Nat.pow_le_pow_right (by decide) (by omega)
  have hP := p_pos (73 - (w + 1))
  -- the lower bound
  have lo : u ≠ 1 → (∀ (s : Nat) (x : Int), ld (2 * u - 1) (w + 1) s x → -120 ≤ x ∧ x ≤ 120 ∧ s * 2 ^ (x + 120).toNat = uv (2 * u - 1) (w + 1)) ∧ (∀ a b : Nat, CP a b 0 1 (2 * u - 1) (w + 1) = cmpz (a * 2 ^ 120) (b * uv (2 * u - 1) (w + 1))) ∧ uv (2 * u - 1) (w + 1) < R ∧ R ≤ (R - uv (2 * u - 1) (w + 1)) * 4294967296 := by
    intro z
    have k := bd_uv (v := 2 * u - 1) (n := w + 1) (by omega) (by omega) (by rw [hw1]; omega) (fun y => by omega)
    have hlt : uv (2 * u - 1) (w + 1) < R := by
      rw [← vR]
      exact uv_lt9 (by omega) (by omega) (by rw [hw1]; omega) (fun y => by omega) (by omega) hu hu2 (fun y => by omega) (by rw [e73, ← Nat.mul_assoc]; exact Nat.mul_lt_mul_of_pos_right (by omega) hP)
    refine ⟨k.1, k.2.1, hlt, ?_⟩
    obtain ⟨s, x, hl⟩ := ld_ex (u := 2 * u - 1) (n := w + 1) (by omega) (by omega) (by rw [hw1]; omega)
    have b2 := ld_b (by omega) (by omega) (by rw [hw1]; omega) (fun y => by omega) hl
    exact gap32 eR.symm (k.1 s x hl).2.2.symm hlb.2.1 b2.2.1 hlt
  have hi : u ≠ 2 ^ (w - 1) - 1 → (∀ (s : Nat) (x : Int), ld (2 * u + 1) (w + 1) s x → -120 ≤ x ∧ x ≤ 120 ∧ s * 2 ^ (x + 120).toNat = uv (2 * u + 1) (w + 1)) ∧ (∀ a b : Nat, CP a b 0 1 (2 * u + 1) (w + 1) = cmpz (a * 2 ^ 120) (b * uv (2 * u + 1) (w + 1))) ∧ R < uv (2 * u + 1) (w + 1) ∧ uv (2 * u + 1) (w + 1) < 2 ^ 300 := by
    intro z
    have k := bd_uv (v := 2 * u + 1) (n := w + 1) (by omega) (by omega) (by rw [hw1]; omega) (fun y => by
      have : 2 ^ (w - 1) = 2 ^ 31 := by rw [show w - 1 = 31 from by omega]
      omega)
    refine ⟨k.1, k.2.1, ?_, k.2.2⟩
    rw [← vR]
    exact uv_lt9 (by omega) hu hu2 (fun y => by omega) (by omega) (by omega) (by rw [hw1]; omega) (fun y => by
      have : 2 ^ (w - 1) = 2 ^ 31 := by rw [show w - 1 = 31 from by omega]
      omega) (by rw [e73, ← Nat.mul_assoc]; exact Nat.mul_lt_mul_of_pos_right (by omega) hP)
  obtain ⟨EL, eEL⟩ : ∃ x, uv (2 * u - 1) (w + 1) = x := ⟨_, rfl⟩
  obtain ⟨EH, eEH⟩ : ∃ x, uv (2 * u + 1) (w + 1) = x := ⟨_, rfl⟩
  rw [eEL] at lo
  rw [eEH] at hi
  have hSX : SXp w u R EL EH := ⟨hw, hu, hu2, fun z => ⟨(lo z).2.1, (lo z).2.2.1⟩, fun z => ⟨(hi z).2.1, (hi z).2.2.1⟩⟩
  obtain ⟨j, k, j1, k1, j2, j3, k2, k3, k4, jk⟩ := jk_ex hR0 hR1
  -- the reference's side
  have ref : ∀ i : Nat, SC (sg * 2 ^ i) (ex - i) j k ∧ (∃ dd cc, rsS w u (2 ^ (-(ex - (i : Int))).toNat * 10 ^ j) ((j : Int) - k) 58 (sg * 2 ^ i * 2 ^ (ex - (i : Int)).toNat * 10 ^ k) 0 0 = some (dd, cc)) ∧ ∀ dd cc (sL : List Nat), rsS w u (2 ^ (-(ex - (i : Int))).toNat * 10 ^ j) ((j : Int) - k) 58 (sg * 2 ^ i * 2 ^ (ex - (i : Int)).toNat * 10 ^ k) 0 0 = some (dd, cc) → (shS (decide (u = 1)) (decide (u = 2 ^ (w - 1) - 1)) (decide (u % 2 = 0)) (1 * 2 ^ 120 * 10 ^ j) 60 true (R * 10 ^ k) ((if u = 1 then 0 else R - EL) * 10 ^ k) ((if u = 2 ^ (w - 1) - 1 then 0 else EH - R) * 10 ^ k) ((j : Int) - k) sL).1 ++ ([101] ++ pwT (shS (decide (u = 1)) (decide (u = 2 ^ (w - 1) - 1)) (decide (u % 2 = 0)) (1 * 2 ^ 120 * 10 ^ j) 60 true (R * 10 ^ k) ((if u = 1 then 0 else R - EL) * 10 ^ k) ((if u = 2 ^ (w - 1) - 1 then 0 else EH - R) * 10 ^ k) ((j : Int) - k) sL).2) = sL ++ fwT dd ((j : Int) - k) cc := by
    intro i
    obtain ⟨N0, eN0⟩ : ∃ N0, sg * 2 ^ i * 2 ^ (ex - (i : Int)).toNat = N0 := ⟨_, rfl⟩
    obtain ⟨D0, eD0⟩ : ∃ D0, 2 ^ (-(ex - (i : Int))).toNat = D0 := ⟨_, rfl⟩
    have hD0 : 0 < D0 := by rw [← eD0]; exact p_pos _
    have hT := p_pos 120
    have hrat : N0 * 2 ^ 120 = R * D0 := by
      rw [← eN0, ← eD0, ← eR, Nat.mul_assoc sg, ← Nat.pow_add, Nat.mul_assoc sg, ← Nat.pow_add, Nat.mul_assoc sg, ← Nat.pow_add, show i + (ex - (i : Int)).toNat + 120 = (ex + 120).toNat + (-(ex - (i : Int))).toNat from by omega]
    obtain ⟨U, eU⟩ : ∃ U, 1 * 2 ^ 120 * 10 ^ j = U := ⟨_, rfl⟩
    have eU2 : 2 ^ 120 * 10 ^ j = U := by rw [← eU, Nat.one_mul]
    have hD : 0 < D0 * 10 ^ j := Nat.mul_pos hD0 (Nat.pow_pos (by decide))
    have hNU : N0 * 10 ^ k * U = R * 10 ^ k * (D0 * 10 ^ j) := by
      rw [← eU2]
      generalize 10 ^ k = a
      generalize 10 ^ j = b
      rw [Nat.mul_right_comm N0 a, ← Nat.mul_assoc N0, hrat, Nat.mul_right_comm R a, ← Nat.mul_assoc R]
    have tr : ∀ x y, N0 * x < D0 * y ↔ R * x < 2 ^ 120 * y := fun x y => rat_lt hrat hT hD0
    have hsc : SC (sg * 2 ^ i) (ex - i) j k := by
      unfold SC
      rw [eN0, eD0]
      refine ⟨fun i9 hi9 => ?_, ?_, fun i9 hi9 => ?_, ?_, by omega, by omega⟩
      · rcases jk with y | y
        · have := k2 i9 hi9
          rw [y, Nat.pow_zero, Nat.mul_one, Nat.one_mul] at this
          have h5 := (tr (10 ^ i9) 1).mpr (by omega)
          omega
        · omega
      · rcases Nat.lt_or_ge (N0 * 10 ^ k) D0 with y | y
        · have h5 := (tr (10 ^ k) 1).mp (by omega)
          have h6 : 1 * 2 ^ 120 * 10 ^ 0 ≤ 1 * 2 ^ 120 * 10 ^ j := Nat.mul_le_mul_left _ (Nat.pow_le_pow_right (by decide) (by omega))
          omega
        · exact y
      · rcases Nat.lt_or_ge (N0 * 10 ^ k) (D0 * 10 ^ (i9 + 1)) with y | y
        · have h5 := (tr (10 ^ k) (10 ^ (i9 + 1))).mp y
          have h6 := j2 i9 hi9
          have h7 : R * 1 ≤ R * 10 ^ k := Nat.mul_le_mul_left _ (Nat.pow_pos (by decide))
          omega
        · exact y
      · exact (tr (10 ^ k) (10 ^ (j + 1))).mpr (by omega)
    have hinv : 0 * 10 * U + R * 10 ^ k = R * 10 ^ k * 10 ^ 0 := by rw [Nat.pow_zero, Nat.mul_one, Nat.zero_mul, Nat.zero_add]
    have hUR : U ≤ R * 10 ^ k := by rw [← eU]; exact k3
    refine ⟨hsc, ?_, ?_⟩
    · rw [eN0, eD0]
      exact rs_ex hSX eU rfl hD (fun z => (lo z).2.2.2) hUR 58 0 (R * 10 ^ k) (N0 * 10 ^ k) 0 (by decide) (by decide) hinv hNU
    · intro dd cc sL hS
      rw [eN0, eD0] at hS
      have k9 := sh_rs (sL := sL) hSX eU rfl hD (by omega) 58 60 0 (R * 10 ^ k) (N0 * 10 ^ k) 0 ((if u = 1 then 0 else R - EL) * 10 ^ k) ((if u = 2 ^ (w - 1) - 1 then 0 else EH - R) * 10 ^ k) (by decide) hinv hNU ?_ (by rw [Nat.pow_zero, Nat.mul_one]) (by rw [Nat.pow_zero, Nat.mul_one]) (fun _ => ⟨rfl, hUR⟩) (fun z => absurd rfl z) hS
      · rw [eU]
        have e0 : sL ++ p46 ((dl 0 0).reverse) = sL := by
          show sL ++ p46 [] = sL
          rw [show p46 [] = [] from rfl, List.append_nil]
        rw [e0] at k9
        exact k9
      · rw [← eU, Nat.mul_assoc, ← Nat.pow_succ]; exact k4
  refine ⟨u, EL, EH, R, _, _, j, k, ⟨hu, hu2⟩, eu, eR, hR3, fun z => ⟨(lo z).1, Nat.le_of_lt (lo z).2.2.1⟩, fun z => ⟨(hi z).1, Nat.le_of_lt (hi z).2.2.1, (hi z).2.2.2⟩, rfl, rfl, j1, k1, j2, j3, k2, k3, k4, ?_, ?_⟩
  · intro _ _ s M E hl hM
    obtain ⟨i, e1, e2, e3, e4⟩ := lk_i hw hp h0 h9 d hl
    obtain ⟨r1, ⟨dd, cc, r2⟩, -⟩ := ref i
    refine ⟨j, k, dd, cc, ?_, ?_⟩
    · rw [e1, e2]; exact r1
    · rw [eu2, e1, e2]; exact r2
  · intro T hT
    rcases hT with ⟨z, -⟩ | ⟨z, -⟩ | ⟨-, -, s, M, E, hl, hM, ⟨z, -⟩ | ⟨-, j', k', dd, cc, hsc, hrs, hT⟩⟩
    · exact absurd z h9
    · exact absurd z h0
    · exact absurd z (by decide)
    · obtain ⟨i, e1, e2, e3, e4⟩ := lk_i hw hp h0 h9 d hl
      obtain ⟨r1, -, r3⟩ := ref i
      rw [e1, e2] at hsc hrs
      obtain ⟨ej, ek⟩ := SC_u hsc r1
      subst ej
      subst ek
      rw [eu2] at hrs
      have k9 := r3 dd cc (cond (decide (2 ^ (w - 1) < p)) [45] []) hrs
      unfold shT
      rw [k9, hT]
      congr 1
      rw [← e4]
      by_cases z : s < 0
      · rw [if_pos z, decide_eq_true z]; rfl
      · rw [if_neg z, decide_eq_false z]; rfl
