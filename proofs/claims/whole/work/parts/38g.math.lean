/-! Mathematics: the exact decimal -/
theorem dl_mod : ∀ (k X : Nat), dl (X % 10 ^ k) k = dl X k
  | 0, _ => rfl
  | k + 1, X => by
    show (48 + X % 10 ^ (k + 1) % 10) :: dl (X % 10 ^ (k + 1) / 10) k = (48 + X % 10) :: dl (X / 10) k
    have e1 : X % 10 ^ (k + 1) % 10 = X % 10 := Nat.mod_mod_of_dvd _ (by rw [Nat.pow_succ]; exact Nat.dvd_mul_left _ _)
    have e2 : X % 10 ^ (k + 1) / 10 = X / 10 % 10 ^ k := by rw [Nat.pow_succ, Nat.mul_comm]; exact Nat.mod_mul_right_div_self _ _ _
    rw [e1, e2, dl_mod k (X / 10)]
/-- the digits behind the dot, in two ways -/
theorem fx_dl {t : Nat} : ∀ (m f g : Nat), m ≤ f → m ≤ t → g < 2 ^ m → (1 ≤ m → g % 2 = 1) → fx t f (g * 2 ^ (t - m)) = (dl (g * 5 ^ m) m).reverse
  | 0, f, g, _, _, hg, _ => by
    have g0 : g = 0 := by rw [Nat.pow_zero] at hg; omega
    rw [g0, Nat.zero_mul]
    cases f with
    | zero => rfl
    | succ f => unfold fx; rw [if_pos rfl]; rfl
  | m + 1, 0, g, hf, _, _, _ => absurd hf (by omega)
  | m + 1, f + 1, g, hf, ht, hg, ho => by
    have hodd := ho (by omega)
    have hg0 : g ≠ 0 := by omega
    have hP := p_pos (t - (m + 1))
    have et : 2 ^ t = 2 ^ (m + 1) * 2 ^ (t - (m + 1)) := by rw [← Nat.pow_add, show m + 1 + (t - (m + 1)) = t from by omega]
    have em : 2 ^ (m + 1) = 2 * 2 ^ m := pw2 rfl
    have hm := p_pos m
    unfold fx
    rw [if_neg (by
      have := Nat.mul_pos (show 0 < g by omega) hP
      omega), dl_succ, List.reverse_append]
    have e1 : g * 2 ^ (t - (m + 1)) * 10 = (5 * g * 2) * 2 ^ (t - (m + 1)) := by
      generalize 2 ^ (t - (m + 1)) = P
      rw [Nat.mul_right_comm, show 5 * g * 2 = g * 10 from by omega]
    have e2 : g * 2 ^ (t - (m + 1)) * 10 / 2 ^ t = 5 * g / 2 ^ m := by
      rw [e1, et, Nat.mul_div_mul_right _ _ hP, em, Nat.mul_comm 2, Nat.mul_div_mul_right _ _ (by decide)]
    have e3 : g * 2 ^ (t - (m + 1)) * 10 % 2 ^ t = (5 * g % 2 ^ m) * 2 ^ (t - m) := by
      rw [e1, et, Nat.mul_mod_mul_right, em, Nat.mul_comm 2, Nat.mul_mod_mul_right, show 2 ^ (t - m) = 2 * 2 ^ (t - (m + 1)) from pw2 (by omega), Nat.mul_assoc]
    have e5 : g * 5 ^ (m + 1) = 5 * g * 5 ^ m := by rw [Nat.pow_succ, Nat.mul_comm (5 ^ m), ← Nat.mul_assoc, Nat.mul_comm g]
    have e10 : (10 : Nat) ^ m = 2 ^ m * 5 ^ m := by rw [← Nat.mul_pow]
    have h5 : 0 < 5 ^ m := Nat.pow_pos (by decide)
    have e6 : g * 5 ^ (m + 1) / 10 ^ m = 5 * g / 2 ^ m := by rw [e5, e10, Nat.mul_div_mul_right _ _ h5]
    have e7 : g * 5 ^ (m + 1) % 10 ^ m = (5 * g % 2 ^ m) * 5 ^ m := by rw [e5, e10, Nat.mul_mod_mul_right]
    have hlt : 5 * g / 2 ^ m < 10 := by
      apply Nat.div_lt_of_lt_mul
      omega
    rw [e2, e3, e6, Nat.mod_eq_of_lt hlt, ← dl_mod m (g * 5 ^ (m + 1)), e7]
    have ih := fx_dl (t := t) m f (5 * g % 2 ^ m) (by omega) (by omega) (Nat.mod_lt _ hm) (fun h1 => by
      have e8 : 2 ^ m = 2 * 2 ^ (m - 1) := pw2 (by omega)
      have h9 := Nat.div_add_mod (5 * g) (2 ^ m)
      rw [e8, Nat.mul_assoc] at h9
      rw [e8]
      omega)
    rw [ih]
    rfl
/-- digits of a whole number, at least one -/
theorem wT_dl (v : Nat) : wT v = (dl v (max 1 (ndc v))).reverse := by
  unfold wT wK
  have h := ndc_s v
  by_cases z : ndc v = 0
  · rw [if_pos z, z]
    have : v = 0 := by
      have := h.1
      rw [z, Nat.pow_zero] at this
      omega
    rw [this]; rfl
  · rw [if_neg z, show max 1 (ndc v) = ndc v from by omega]
theorem e_ex {sg i : Nat} {ex s : Int} (ho : sg % 2 = 1) (hs : sg < 1073741824) (hx : -120 ≤ ex ∧ ex ≤ 120) (hs1 : s = 1 ∨ s = -1) :
    ∃ K, (-ex).toNat < K ∧ fN sg ex < 10 ^ K ∧ (∀ j, (-ex).toNat < j → j < K → 10 ^ j ≤ fN sg ex) ∧ K ≤ 150 ∧ (fR (decide (s < 0)) (fN sg ex) (-ex).toNat K).reverse = exT s (sg * 2 ^ i) (ex - i) := by
  obtain ⟨t, et⟩ : ∃ t, (-ex).toNat = t := ⟨_, rfl⟩
  have eN : fN sg ex = sg * 2 ^ ex.toNat * 5 ^ t := by unfold fN; rw [et]
  have e10 : (10 : Nat) ^ t = 2 ^ t * 5 ^ t := by rw [← Nat.mul_pow]
  have h5 : 0 < 5 ^ t := Nat.pow_pos (by decide)
  have h10 : 0 < 10 ^ t := Nat.pow_pos (by decide)
  have hi := p_pos i
  rw [et]
  obtain ⟨I, eI⟩ : ∃ I, fN sg ex / 10 ^ t = I := ⟨_, rfl⟩
  have eI2 : I = sg * 2 ^ ex.toNat / 2 ^ t := by rw [← eI, eN, e10, Nat.mul_div_mul_right _ _ h5]
  have hI : I < 10 ^ (if t = 0 then 46 else 10) := by
    rw [eI2]
    by_cases z : t = 0
    · rw [if_pos z, z, Nat.pow_zero, Nat.div_one]
      have : 2 ^ ex.toNat ≤ 2 ^ 120 := Nat.pow_le_pow_right (by decide) (by omega)
      have h8 : sg * 2 ^ ex.toNat ≤ sg * 2 ^ 120 := Nat.mul_le_mul_left _ this
      have := p10_46
      omega
    · rw [if_neg z, show ex.toNat = 0 from by omega, Nat.pow_zero, Nat.mul_one]
      have := Nat.div_le_self sg (2 ^ t)
      omega
  have hnd := dgK_le (ndc_s I) hI
  have hs9 := ndc_s I
  have hNI : fN sg ex = 10 ^ t * I + fN sg ex % 10 ^ t := by rw [← eI]; exact (Nat.div_add_mod _ _).symm
  have hml := Nat.mod_lt (fN sg ex) h10
  have hsp : ∀ j, t ≤ j → (10 : Nat) ^ j = 10 ^ t * 10 ^ (j - t) := fun j hj => by rw [← Nat.pow_add, show t + (j - t) = j from by omega]
  refine ⟨t + max 1 (ndc I), by omega, ?_, ?_, ?_, ?_⟩
  · rw [hsp _ (by omega), show t + max 1 (ndc I) - t = max 1 (ndc I) from by omega]
    have h1 : I < 10 ^ max 1 (ndc I) := Nat.lt_of_lt_of_le hs9.1 (Nat.pow_le_pow_right (by decide) (by omega))
    have h2 : 10 ^ t * (I + 1) ≤ 10 ^ t * 10 ^ max 1 (ndc I) := Nat.mul_le_mul_left _ h1
    rw [Nat.mul_succ] at h2
    omega
  · intro j hj1 hj2
    rw [hsp j (by omega)]
    have h1 := hs9.2 (j - t) (by omega)
    have h2 : 10 ^ t * 10 ^ (j - t) ≤ 10 ^ t * I := Nat.mul_le_mul_left _ h1
    omega
  · split at hnd <;> omega
  · unfold fR
    rw [List.reverse_append, List.reverse_append, List.reverse_append, eI, show t + max 1 (ndc I) - t = max 1 (ndc I) from by omega, ← wT_dl]
    unfold exT
    have eI3 : (if 0 ≤ ex - (i : Int) then sg * 2 ^ i * 2 ^ (ex - (i : Int)).toNat else sg * 2 ^ i / 2 ^ (-(ex - (i : Int))).toNat) = I := by
      rw [eI2]
      by_cases z : 0 ≤ ex - (i : Int)
      · rw [if_pos z, Nat.mul_assoc, ← Nat.pow_add, show i + (ex - (i : Int)).toNat = ex.toNat from by omega, show t = 0 from by omega, Nat.pow_zero, Nat.div_one]
      · rw [if_neg z]
        by_cases y : 0 ≤ ex
        · rw [show t = 0 from by omega, Nat.pow_zero, Nat.div_one]
          have e1 : sg * 2 ^ i = sg * 2 ^ ex.toNat * 2 ^ (-(ex - (i : Int))).toNat := by rw [Nat.mul_assoc, ← Nat.pow_add, show ex.toNat + (-(ex - (i : Int))).toNat = i from by omega]
          rw [e1]
          exact Nat.mul_div_cancel _ (p_pos _)
        · rw [show ex.toNat = 0 from by omega, Nat.pow_zero, Nat.mul_one, show (-(ex - (i : Int))).toNat = t + i from by omega, Nat.pow_add]
          exact Nat.mul_div_mul_right _ _ hi
    rw [eI3]
    have esg : (bif decide (s < 0) then [45] else []).reverse = (if s < 0 then [45] else [] : List Nat) := by
      by_cases z : s < 0
      · rw [decide_eq_true z, if_pos z]; rfl
      · rw [decide_eq_false z, if_neg z]; rfl
    rw [esg, List.append_assoc, List.append_assoc]
    congr 2
    by_cases z : t = 0
    · have e0 : sg * 2 ^ i % 2 ^ (-(ex - (i : Int))).toNat = 0 := by
        have e1 : sg * 2 ^ i = sg * 2 ^ (i - (-(ex - (i : Int))).toNat) * 2 ^ (-(ex - (i : Int))).toNat := by rw [Nat.mul_assoc, ← Nat.pow_add, show i - (-(ex - (i : Int))).toNat + (-(ex - (i : Int))).toNat = i from by omega]
        rw [e1]; exact Nat.mul_mod_left _ _
      rw [e0, if_pos rfl, z, if_neg (by decide)]
      rfl
    · have ext : (-(ex - (i : Int))).toNat = t + i := by omega
      have e0 : sg * 2 ^ i % 2 ^ (t + i) = sg % 2 ^ t * 2 ^ i := by rw [Nat.pow_add]; exact Nat.mul_mod_mul_right _ _ _
      have hne : sg % 2 ^ t ≠ 0 := fun q => by
        have e1 : 2 ^ t = 2 * 2 ^ (t - 1) := pw2 (by omega)
        have h5 := Nat.div_add_mod sg (2 ^ t)
        rw [q, Nat.add_zero, e1, Nat.mul_assoc] at h5
        omega
      have hodd : sg % 2 ^ t % 2 = 1 := by
        have e1 : 2 ^ t = 2 * 2 ^ (t - 1) := pw2 (by omega)
        have h5 := Nat.div_add_mod sg (2 ^ t)
        rw [e1, Nat.mul_assoc] at h5
        rw [e1]
        omega
      have hne2 : sg % 2 ^ t * 2 ^ i ≠ 0 := by
        have := Nat.mul_pos (Nat.pos_of_ne_zero hne) hi
        omega
      rw [ext, e0, if_pos (show 0 < t by omega), if_neg hne2]
      have k := fx_dl (t := t + i) t (t + i) (sg % 2 ^ t) (by omega) (by omega) (Nat.mod_lt _ (p_pos t)) (fun _ => hodd)
      rw [show t + i - t = i from by omega] at k
      rw [k]
      have e7 : fN sg ex % 10 ^ t = sg % 2 ^ t * 5 ^ t := by rw [eN, show ex.toNat = 0 from by omega, Nat.pow_zero, Nat.mul_one, e10, Nat.mul_mod_mul_right]
      rw [← dl_mod t (fN sg ex), e7]
      rfl
