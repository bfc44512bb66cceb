/-! Mathematics: the shortest decimal -/
theorem uv_lt9 {u n u' n' : Nat} (hn : 3 ≤ n ∧ n ≤ 33) (hu : 0 < u) (hu2 : u < 2 ^ (n - 1)) (h33 : n = 33 → 2 ≤ u ∧ u + 2 ≤ 2 ^ 32) (hn' : 3 ≤ n' ∧ n' ≤ 33) (hu' : 0 < u') (hu2' : u' < 2 ^ (n' - 1)) (h33' : n' = 33 → 2 ≤ u' ∧ u' + 2 ≤ 2 ^ 32) (hlt : u * 2 ^ (73 - n) < u' * 2 ^ (73 - n')) : uv u n < uv u' n' := by
  obtain ⟨sg, ex, hl⟩ := ld_ex hn hu hu2
  obtain ⟨sg', ex', hl'⟩ := ld_ex hn' hu' hu2'
  have b1 := ld_b hn hu hu2 h33 hl
  have b2 := ld_b hn' hu' hu2' h33' hl'
  have v1 := uv_md (ld_md hl).1 b1.2.2.1 b1.1
  have v2 := uv_md (ld_md hl').1 b2.2.2.1 b2.1
  obtain ⟨r, t, h1, k2, k3, ha⟩ := AP_self hl
  obtain ⟨r', t', j', h1', -⟩ := id hl'
  have hc := ha u' n' r' t' hn'.1 hn'.2 hu' hu2' h1'
  rw [k2, k3] at hc
  have e1 : CP sg 1 ex 1 u' n' = cmpz (uv u n) (uv u' n') := by
    rw [← CP_a0 v1 b1.2.2.1]
    unfold CP
    rw [← cpr_md (ld_md hl').1, cpr_xy (X := 0) (Y := (ex' + 120).toNat) (by omega), Nat.pow_zero, Nat.mul_one, Nat.one_mul, Nat.pow_one, ← v2]
  rw [e1] at hc
  obtain ⟨d1, d2, d3, d4⟩ := h1
  obtain ⟨d1', d2', d3', d4'⟩ := h1'
  rw [d4, d4'] at hlt
  have := hc.1 ((enc_lex d1 d2 d1' d2' d3 d3').mp hlt)
  exact cmpz_lt.mp (by rw [this]; decide)
/-- a bound of a rounding, as the class reckons it -/
theorem bd_uv {v n : Nat} (hn : 3 ≤ n ∧ n ≤ 33) (hv : 0 < v) (hv2 : v < 2 ^ (n - 1)) (h33 : n = 33 → 2 ≤ v ∧ v + 2 ≤ 2 ^ 32) : (∀ (s : Nat) (x : Int), ld v n s x → -120 ≤ x ∧ x ≤ 120 ∧ s * 2 ^ (x + 120).toNat = uv v n) ∧ (∀ a b : Nat, CP a b 0 1 v n = cmpz (a * 2 ^ 120) (b * uv v n)) ∧ uv v n < 2 ^ 300 := by
  refine ⟨fun s x hl => ?_, fun a b => ?_, ?_⟩
  · have b1 := ld_b hn hv hv2 h33 hl
    exact ⟨b1.2.2.1, b1.2.2.2, (uv_md (ld_md hl).1 b1.2.2.1 b1.1).symm⟩
  · obtain ⟨sg, ex, hl⟩ := ld_ex hn hv hv2
    have b1 := ld_b hn hv hv2 h33 hl
    rw [uv_md (ld_md hl).1 b1.2.2.1 b1.1]
    unfold CP
    rw [← cpr_md (ld_md hl).1, cpr_xy (X := 120) (Y := (ex + 120).toNat) (by omega), Nat.pow_one, Nat.mul_assoc]
  · obtain ⟨sg, ex, hl⟩ := ld_ex hn hv hv2
    have b1 := ld_b hn hv hv2 h33 hl
    rw [uv_md (ld_md hl).1 b1.2.2.1 b1.1]
    have h1 : 2 ^ (ex + 120).toNat ≤ 2 ^ 240 := Nat.pow_le_pow_right (by decide) (by omega)
    have h2 : sg * 2 ^ (ex + 120).toNat ≤ 1073741824 * 2 ^ 240 := Nat.mul_le_mul (by omega) h1
    have h3 : 1073741824 * 2 ^ 240 < (2 : Nat) ^ 300 := by decide
    omega
/-- two different values lie apart by a part of 2^32 -/
theorem gap32 {R Y s t a b : Nat} (eR : R = s * 2 ^ a) (eY : Y = t * 2 ^ b) (hs : s < 1073741824) (ht : t < 1073741824) (h : Y < R) : R ≤ (R - Y) * 4294967296 := by
  rcases Nat.le_total a b with z | z
  · have e1 : Y = t * 2 ^ (b - a) * 2 ^ a := by rw [eY, Nat.mul_assoc, ← Nat.pow_add, show b - a + a = b from by omega]
    rw [eR, e1] at h
    have h1 := Nat.lt_of_mul_lt_mul_right h
    have h2 : R - Y = (s - t * 2 ^ (b - a)) * 2 ^ a := by rw [eR, e1, Nat.sub_mul]
    have h3 : 1 * 2 ^ a ≤ (s - t * 2 ^ (b - a)) * 2 ^ a := Nat.mul_le_mul_right _ (by omega)
    have h4 : s * 2 ^ a ≤ 1073741824 * 2 ^ a := Nat.mul_le_mul_right _ (by omega)
    omega
  · have e1 : R = s * 2 ^ (a - b) * 2 ^ b := by rw [eR, Nat.mul_assoc, ← Nat.pow_add, show a - b + b = a from by omega]
    rw [eY, e1] at h
    have h1 := Nat.lt_of_mul_lt_mul_right h
    have h2 : R - Y = (s * 2 ^ (a - b) - t) * 2 ^ b := by rw [eY, e1, Nat.sub_mul]
    have h3 : 1 * 2 ^ b ≤ (s * 2 ^ (a - b) - t) * 2 ^ b := Nat.mul_le_mul_right _ (by omega)
    have h4 : t * 2 ^ b ≤ 1073741824 * 2 ^ b := Nat.mul_le_mul_right _ (by omega)
    omega
/-- a size u of width w is R, in units of 2^-120; its bounds are EL and EH -/
def SXp (w u R EL EH : Nat) : Prop := (3 ≤ w ∧ w ≤ 32) ∧ 0 < u ∧ u < 2 ^ (w - 1) ∧ (u ≠ 1 → (∀ a b : Nat, CP a b 0 1 (2 * u - 1) (w + 1) = cmpz (a * 2 ^ 120) (b * EL)) ∧ EL < R) ∧ (u ≠ 2 ^ (w - 1) - 1 → (∀ a b : Nat, CP a b 0 1 (2 * u + 1) (w + 1) = cmpz (a * 2 ^ 120) (b * EH)) ∧ R < EH)
theorem cmp10 {X T Y j q : Nat} {l : Int} (h : (j : Int) - q = l) : cmpz (X * 10 ^ l.toNat * T) (10 ^ (-l).toNat * Y) = cmpz (X * (T * 10 ^ j)) (Y * 10 ^ q) := by
  obtain ⟨m, e1, e2⟩ : ∃ m : Nat, j = l.toNat + m ∧ q = (-l).toNat + m := ⟨j - l.toNat, by omega, by omega⟩
  rw [← cmpz_mul (P := 10 ^ m) (Nat.pow_pos (by decide)), e1, e2, Nat.pow_add, Nat.pow_add]
  congr 1
  · generalize 10 ^ l.toNat = A
    generalize 10 ^ m = B
    rw [Nat.mul_assoc, Nat.mul_assoc, Nat.mul_left_comm A T B]
  · generalize 10 ^ (-l).toNat = A
    generalize 10 ^ m = B
    rw [Nat.mul_comm A Y, Nat.mul_assoc]
theorem dec_iff {a b : Prop} [Decidable a] [Decidable b] (h : a ↔ b) : decide a = decide b := by simp only [h]
section
variable {w u R EL EH : Nat}
theorem rr_lo (h : SXp w u R EL EH) {X j q : Nat} {l : Int} (hl : (j : Int) - q = l) (hX : X * (2 ^ 120 * 10 ^ j) ≤ R * 10 ^ q) : rR w u X l = (decide (u = 1) || fit (R * 10 ^ q - X * (2 ^ 120 * 10 ^ j)) ((R - EL) * 10 ^ q) (decide (u % 2 = 0))) := by
  obtain ⟨hw, hu, hu2, h1, h2⟩ := h
  have hq : 0 < 10 ^ q := Nat.pow_pos (by decide)
  have iv := rd_iv (C := CP (X * 10 ^ l.toNat) (10 ^ (-l).toNat) 0 1) hw (MC_of (Nat.pow_pos (by decide)) (by decide)) hu hu2
  have hi : u = 2 ^ (w - 1) - 1 ∨ CP (X * 10 ^ l.toNat) (10 ^ (-l).toNat) 0 1 (2 * u + 1) (w + 1) < 0 ∨ (CP (X * 10 ^ l.toNat) (10 ^ (-l).toNat) 0 1 (2 * u + 1) (w + 1) = 0 ∧ u % 2 = 0) := by
    by_cases z : u = 2 ^ (w - 1) - 1
    · exact Or.inl z
    · right; left
      obtain ⟨k1, k2⟩ := h2 z
      rw [k1, cmp10 hl]
      apply cmpz_lt.mpr
      have := Nat.mul_lt_mul_of_pos_right k2 hq
      omega
  unfold rR
  by_cases z : u = 1
  · rw [decide_eq_true z, Bool.true_or]
    exact decide_eq_true (iv.mpr ⟨Or.inl z, hi⟩)
  · obtain ⟨k1, k2⟩ := h1 z
    rw [decide_eq_false z, Bool.false_or]
    have e1 : CP (X * 10 ^ l.toNat) (10 ^ (-l).toNat) 0 1 (2 * u - 1) (w + 1) = cmpz (X * (2 ^ 120 * 10 ^ j)) (EL * 10 ^ q) := by rw [k1, cmp10 hl]
    have c1 := cmpz_lt (v := X * (2 ^ 120 * 10 ^ j)) (w := EL * 10 ^ q)
    have c2 := cmpz_eq (v := X * (2 ^ 120 * 10 ^ j)) (w := EL * 10 ^ q)
    have c3 := cmpz_r (X * (2 ^ 120 * 10 ^ j)) (EL * 10 ^ q)
    rw [e1] at iv
    have hsub : (R - EL) * 10 ^ q = R * 10 ^ q - EL * 10 ^ q := Nat.sub_mul _ _ _
    have k3 := Nat.mul_lt_mul_of_pos_right k2 hq
    unfold fit
    rw [hsub]
    generalize X * (2 ^ 120 * 10 ^ j) = a at *
    generalize R * 10 ^ q = b at *
    generalize EL * 10 ^ q = c at *
    rw [← Bool.decide_and, ← Bool.decide_or]
    apply dec_iff
    rw [iv]
    constructor
    · intro ⟨y, _⟩; omega
    · intro y; exact ⟨by omega, hi⟩
theorem rr_hi (h : SXp w u R EL EH) {X j q : Nat} {l : Int} (hl : (j : Int) - q = l) (hX : R * 10 ^ q < X * (2 ^ 120 * 10 ^ j)) : rR w u X l = (decide (u = 2 ^ (w - 1) - 1) || fit (X * (2 ^ 120 * 10 ^ j) - R * 10 ^ q) ((EH - R) * 10 ^ q) (decide (u % 2 = 0))) := by
  obtain ⟨hw, hu, hu2, h1, h2⟩ := h
  have hq : 0 < 10 ^ q := Nat.pow_pos (by decide)
  have iv := rd_iv (C := CP (X * 10 ^ l.toNat) (10 ^ (-l).toNat) 0 1) hw (MC_of (Nat.pow_pos (by decide)) (by decide)) hu hu2
  have lo : u = 1 ∨ 0 < CP (X * 10 ^ l.toNat) (10 ^ (-l).toNat) 0 1 (2 * u - 1) (w + 1) ∨ (CP (X * 10 ^ l.toNat) (10 ^ (-l).toNat) 0 1 (2 * u - 1) (w + 1) = 0 ∧ u % 2 = 0) := by
    by_cases z : u = 1
    · exact Or.inl z
    · right; left
      obtain ⟨k1, k2⟩ := h1 z
      rw [k1, cmp10 hl]
      have c1 := cmpz_lt (v := X * (2 ^ 120 * 10 ^ j)) (w := EL * 10 ^ q)
      have c2 := cmpz_eq (v := X * (2 ^ 120 * 10 ^ j)) (w := EL * 10 ^ q)
      have c3 := cmpz_r (X * (2 ^ 120 * 10 ^ j)) (EL * 10 ^ q)
      have := Nat.mul_lt_mul_of_pos_right k2 hq
      omega
  unfold rR
  by_cases z : u = 2 ^ (w - 1) - 1
  · rw [decide_eq_true z, Bool.true_or]
    exact decide_eq_true (iv.mpr ⟨lo, Or.inl z⟩)
  · obtain ⟨k1, k2⟩ := h2 z
    rw [decide_eq_false z, Bool.false_or]
    have e1 : CP (X * 10 ^ l.toNat) (10 ^ (-l).toNat) 0 1 (2 * u + 1) (w + 1) = cmpz (X * (2 ^ 120 * 10 ^ j)) (EH * 10 ^ q) := by rw [k1, cmp10 hl]
    have c1 := cmpz_lt (v := X * (2 ^ 120 * 10 ^ j)) (w := EH * 10 ^ q)
    have c2 := cmpz_eq (v := X * (2 ^ 120 * 10 ^ j)) (w := EH * 10 ^ q)
    have c3 := cmpz_r (X * (2 ^ 120 * 10 ^ j)) (EH * 10 ^ q)
    rw [e1] at iv
    have hsub : (EH - R) * 10 ^ q = EH * 10 ^ q - R * 10 ^ q := Nat.sub_mul _ _ _
    have k3 := Nat.mul_lt_mul_of_pos_right k2 hq
    unfold fit
    rw [hsub]
    generalize X * (2 ^ 120 * 10 ^ j) = a at *
    generalize R * 10 ^ q = b at *
    generalize EH * 10 ^ q = c at *
    rw [← Bool.decide_and, ← Bool.decide_or]
    apply dec_iff
    rw [iv]
    constructor
    · intro ⟨_, y⟩; omega
    · intro y; exact ⟨lo, by omega⟩
end
/-- one step of both: the digits are the same, and so are the tests -/
theorem sh_step {w u R EL EH j k c U R1 N1 D Lw : Nat} {ten : Int} (h : SXp w u R EL EH) (eU : 1 * 2 ^ 120 * 10 ^ j = U) (eten : (j : Int) - k = ten) (hD : 0 < D) (hinv : Lw * 10 * U + R1 = R * 10 ^ k * 10 ^ c) (hN : N1 * U = R1 * D) :
    N1 / D = R1 / U ∧ (N1 % D) * U = (R1 % U) * D ∧ (D < N1 % D + N1 % D ↔ U - R1 % U < R1 % U) ∧ rR w u (Lw * 10 + N1 / D) (ten - c) = sDn (decide (u = 1)) (decide (u % 2 = 0)) U R1 ((if u = 1 then 0 else R - EL) * 10 ^ k * 10 ^ c) ∧ rR w u (Lw * 10 + N1 / D + 1) (ten - c) = sUf (decide (u = 2 ^ (w - 1) - 1)) (decide (u % 2 = 0)) U R1 ((if u = 2 ^ (w - 1) - 1 then 0 else EH - R) * 10 ^ k * 10 ^ c) := by
  have hU : 0 < U := by rw [← eU]; exact Nat.mul_pos (by decide) (Nat.pow_pos (by decide))
  have eU2 : 2 ^ 120 * 10 ^ j = U := by rw [← eU, Nat.one_mul]
  have dm := Nat.div_add_mod R1 U
  have ml := Nat.mod_lt R1 hU
  have dn := Nat.div_add_mod N1 D
  have mn := Nat.mod_lt N1 hD
  obtain ⟨q, eq⟩ : ∃ q, R1 / U = q := ⟨_, rfl⟩
  obtain ⟨r, er⟩ : ∃ r, R1 % U = r := ⟨_, rfl⟩
  obtain ⟨q', eq'⟩ : ∃ q, N1 / D = q := ⟨_, rfl⟩
  obtain ⟨r', er'⟩ : ∃ r, N1 % D = r := ⟨_, rfl⟩
  rw [eq, er] at dm
  rw [er] at ml
  rw [eq', er'] at dn
  rw [er'] at mn
  rw [eq, er, eq', er']
  have key : (D * q' + r') * U = (U * q + r) * D := by rw [dn, dm]; exact hN
  have hq : q' = q := by
    rw [Nat.add_mul, Nat.add_mul] at key
    have e1 : D * q' * U = (U * D) * q' := by rw [Nat.mul_right_comm, Nat.mul_comm D U]
    have e2 : U * q * D = (U * D) * q := Nat.mul_right_comm _ _ _
    rw [e1, e2] at key
    have l1 : r' * U < U * D := by rw [Nat.mul_comm]; exact Nat.mul_lt_mul_of_pos_left mn hU
    have l2 : r * D < U * D := Nat.mul_lt_mul_of_pos_right ml hD
    rcases Nat.lt_trichotomy q' q with z | z | z
    · have : (U * D) * (q' + 1) ≤ (U * D) * q := Nat.mul_le_mul_left _ z
      rw [Nat.mul_succ] at this
      omega
    · exact z
    · have : (U * D) * (q + 1) ≤ (U * D) * q' := Nat.mul_le_mul_left _ z
      rw [Nat.mul_succ] at this
      omega
  subst hq
  have hr : r' * U = r * D := by
    rw [Nat.add_mul, Nat.add_mul] at key
    have e1 : D * q' * U = U * q' * D := by rw [Nat.mul_comm D q', Nat.mul_comm U q', Nat.mul_assoc, Nat.mul_assoc, Nat.mul_comm D U]
    omega
  have hrq : R * 10 ^ k * 10 ^ c = R * 10 ^ (k + c) := by rw [Nat.mul_assoc, ← Nat.pow_add]
  have hlow : (Lw * 10 + q') * U + r = R * 10 ^ (k + c) := by
    rw [← hrq, ← hinv, Nat.add_mul, Nat.mul_comm q' U]; omega
  have hl : (j : Int) - ((k + c : Nat) : Int) = ten - c := by omega
  refine ⟨rfl, hr, ?_, ?_, ?_⟩
  · constructor
    · intro y
      have h1 : D * U < (r' + r') * U := Nat.mul_lt_mul_of_pos_right y hU
      rw [Nat.add_mul, hr, ← Nat.add_mul, Nat.mul_comm D U] at h1
      have := Nat.lt_of_mul_lt_mul_right h1
      omega
    · intro y
      have h1 : U * D < (r + r) * D := Nat.mul_lt_mul_of_pos_right (by omega) hD
      rw [Nat.add_mul, ← hr, ← Nat.add_mul, Nat.mul_comm U D] at h1
      exact Nat.lt_of_mul_lt_mul_right h1
  · have := rr_lo h (X := Lw * 10 + q') (j := j) (q := k + c) hl (by rw [eU2]; omega)
    rw [this, eU2]
    unfold sDn
    rw [er]
    by_cases z : u = 1
    · rw [decide_eq_true z]; rfl
    · rw [decide_eq_false z, if_neg z, show R * 10 ^ (k + c) - (Lw * 10 + q') * U = r from by omega, Nat.mul_assoc (R - EL), ← Nat.pow_add]
  · have := rr_hi h (X := Lw * 10 + q' + 1) (j := j) (q := k + c) hl (by rw [eU2, Nat.add_mul, Nat.one_mul]; omega)
    rw [this, eU2]
    unfold sUf
    rw [er]
    by_cases z : u = 2 ^ (w - 1) - 1
    · rw [decide_eq_true z]; rfl
    · rw [decide_eq_false z, if_neg z, show (Lw * 10 + q' + 1) * U - R * 10 ^ (k + c) = U - r from by rw [Nat.add_mul, Nat.one_mul]; omega, Nat.mul_assoc (EH - R), ← Nat.pow_add]
