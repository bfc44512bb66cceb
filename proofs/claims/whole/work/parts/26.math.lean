/-! The order of the patterns -/
theorem enc_ub {r : Int} {t : Nat} (h1 : -39 ≤ r) (h2 : r ≤ 37) (ht : t < 4294967296) : enc r t < enc (r + 1) 0 := by
  unfold enc
  rw [Nat.zero_mul, Nat.zero_mul, Nat.add_zero, Nat.add_zero]
  by_cases q : 0 ≤ r
  · rw [if_pos q, if_pos (by omega)]
    have e1 : 2 ^ (71 - r.toNat) = 8589934592 * 2 ^ (38 - r.toNat) := by rw [show (8589934592 : Nat) = 2 ^ 33 from rfl, ← Nat.pow_add, show 33 + (38 - r.toNat) = 71 - r.toNat from by omega]
    have e2 : 2 ^ (71 - (r + 1).toNat) = 4294967296 * 2 ^ (38 - r.toNat) := by rw [show (4294967296 : Nat) = 2 ^ 32 from rfl, ← Nat.pow_add, show 32 + (38 - r.toNat) = 71 - (r + 1).toNat from by omega]
    have h3 : t * 2 ^ (38 - r.toNat) ≤ 4294967295 * 2 ^ (38 - r.toNat) := Nat.mul_le_mul_right _ (by omega)
    have h4 := p_pos (38 - r.toNat)
    have h5 : 2 ^ (71 - r.toNat) ≤ 2 ^ 71 := Nat.pow_le_pow_right (by decide) (by omega)
    rw [e1] at h5 ⊢
    rw [e2]
    omega
  · rw [if_neg q]
    have e1 : 2 ^ (71 - (-r).toNat) = 4294967296 * 2 ^ (39 - (-r).toNat) := by rw [show (4294967296 : Nat) = 2 ^ 32 from rfl, ← Nat.pow_add, show 32 + (39 - (-r).toNat) = 71 - (-r).toNat from by omega]
    have h3 : t * 2 ^ (39 - (-r).toNat) ≤ 4294967295 * 2 ^ (39 - (-r).toNat) := Nat.mul_le_mul_right _ (by omega)
    have h4 := p_pos (39 - (-r).toNat)
    rw [e1]
    by_cases q2 : r = -1
    · subst q2
      have h5 : t * 2 ^ 38 ≤ 4294967295 * 2 ^ 38 := Nat.mul_le_mul_right _ (by omega)
      show 4294967296 * 2 ^ 38 + t * 2 ^ 38 < 2 ^ 72 - 2 ^ 71
      omega
    · rw [if_neg (by omega)]
      have e2 : 2 ^ (71 - (-(r + 1)).toNat) = 8589934592 * 2 ^ (39 - (-r).toNat) := by rw [show (8589934592 : Nat) = 2 ^ 33 from rfl, ← Nat.pow_add, show 33 + (39 - (-r).toNat) = 71 - (-(r + 1)).toNat from by omega]
      rw [e2]
      omega
theorem enc_base (r : Int) (t : Nat) : enc r 0 ≤ enc r t := by
  unfold enc
  split
  · rw [Nat.zero_mul]; omega
  · rw [Nat.zero_mul]; omega
theorem enc_b {r : Int} (h1 : -39 ≤ r) : ∀ m : Nat, r + m ≤ 38 → enc r 0 ≤ enc (r + m) 0
  | 0, _ => by rw [show r + ((0 : Nat) : Int) = r from by omega]; exact Nat.le_refl _
  | m + 1, h => by
    have h2 := enc_b h1 m (by omega)
    have h3 := enc_ub (r := r + m) (t := 0) (by omega) (by omega) (by decide)
    rw [show r + ((m + 1 : Nat) : Int) = r + m + 1 from by omega]
    omega
theorem enc_r {r r' : Int} {t t' : Nat} (h1 : -39 ≤ r) (h2 : r' ≤ 38) (h : r < r') (ht : t < 4294967296) : enc r t < enc r' t' := by
  have a1 := enc_ub (r := r) (t := t) h1 (by omega) ht
  have a2 := enc_b (r := r + 1) (by omega) (r' - (r + 1)).toNat (by omega)
  rw [show r + 1 + (((r' - (r + 1)).toNat : Nat) : Int) = r' from by omega] at a2
  have a3 := enc_base r' t'
  omega
theorem enc_t {r : Int} {t t' : Nat} (h : t < t') : enc r t < enc r t' := by
  unfold enc
  split
  · have := Nat.mul_lt_mul_of_pos_right h (p_pos (38 - r.toNat)); omega
  · have := Nat.mul_lt_mul_of_pos_right h (p_pos (39 - (-r).toNat)); omega
/-- the order of regimes and tails -/
def lexl (r : Int) (t : Nat) (r' : Int) (t' : Nat) : Prop := r < r' ∨ (r = r' ∧ t < t')
theorem enc_lex {r r' : Int} {t t' : Nat} (h1 : -39 ≤ r) (h2 : r ≤ 38) (h1' : -39 ≤ r') (h2' : r' ≤ 38) (ht : t < 4294967296) (ht' : t' < 4294967296) : enc r t < enc r' t' ↔ lexl r t r' t' := by
  unfold lexl
  constructor
  · intro h
    rcases Int.lt_trichotomy r r' with q | q | q
    · exact Or.inl q
    · right
      refine ⟨q, ?_⟩
      subst q
      rcases Nat.lt_trichotomy t t' with z | z | z
      · exact z
      · subst z; omega
      · have := enc_t (r := r) z; omega
    · have := enc_r (t := t') (t' := t) h1' h2 q ht'; omega
  · rintro (q | ⟨q, z⟩)
    · exact enc_r h1 h2' q ht
    · subst q; exact enc_t z
theorem enc_inj {r r' : Int} {t t' : Nat} (h1 : -39 ≤ r) (h2 : r ≤ 38) (h1' : -39 ≤ r') (h2' : r' ≤ 38) (ht : t < 4294967296) (ht' : t' < 4294967296) (h : enc r t = enc r' t') : r = r' ∧ t = t' := by
  rcases Int.lt_trichotomy r r' with q | q | q
  · have := enc_r (t := t) (t' := t') h1 h2' q ht; omega
  · refine ⟨q, ?_⟩
    subst q
    rcases Nat.lt_trichotomy t t' with z | z | z
    · have := enc_t (r := r) z; omega
    · exact z
    · have := enc_t (r := r) z; omega
  · have := enc_r (t := t') (t' := t) h1' h2 q ht'; omega
theorem dec_inj {u n : Nat} {r r' : Int} {t t' : Nat} (h : dec u n r t) (h' : dec u n r' t') : r = r' ∧ t = t' := by
  obtain ⟨a1, a2, a3, a4⟩ := h
  obtain ⟨b1, b2, b3, b4⟩ := h'
  exact enc_inj a1 a2 b1 b2 a3 b3 (by rw [← a4, ← b4])
/-- regime and tail of a pattern -/
noncomputable def dR (u n : Nat) : Int × Nat := Classical.epsilon (fun q : Int × Nat => dec u n q.1 q.2)
theorem dec_R {u n : Nat} {r : Int} {t : Nat} (h : dec u n r t) : dR u n = (r, t) := by
  have h2 : dec u n (dR u n).1 (dR u n).2 := Classical.epsilon_spec (p := fun q : Int × Nat => dec u n q.1 q.2) ⟨(r, t), h⟩
  have := dec_inj h2 h
  exact Prod.ext this.1 this.2
/-- a size's significand of 31 bits, and its exponent -/
noncomputable def pM (u n : Nat) : Nat := 1073741824 + (dR u n).2 % 1073741824
noncomputable def pE (u n : Nat) : Int := 4 * (dR u n).1 + (((dR u n).2 / 1073741824 : Nat) : Int) - 30
/-- M 2^E is u's value -/
def md (u n M : Nat) (E : Int) : Prop := ∃ j : Nat, M * 2 ^ j = pM u n ∧ E = pE u n + j
theorem md_of {u n M : Nat} {E r : Int} {t j : Nat} (h : dec u n r t) (e1 : M * 2 ^ j = 1073741824 + t % 1073741824) (e2 : E = 4 * r + ((t / 1073741824 : Nat) : Int) - 30 + j) : md u n M E := by
  refine ⟨j, ?_, ?_⟩
  · unfold pM; rw [dec_R h]; exact e1
  · unfold pE; rw [dec_R h]; exact e2
theorem ld_md {u n sg : Nat} {ex : Int} (h : ld u n sg ex) : md u n sg ex ∧ sg % 2 = 1 := by
  obtain ⟨r, t, j, h1, h2, h3, h4⟩ := h
  exact ⟨md_of h1 h2 h4, h3⟩
/-- every size has its regime and tail -/
theorem dec_ex {u n : Nat} (hn : 3 ≤ n) (hn2 : n ≤ 33) (hu : 0 < u) (hu2 : u < 2 ^ (n - 1)) : ∃ r t, dec u n r t := by
  rcases Nat.lt_or_ge (u * 2 ^ (65 - n)) 9223372036854775808 with q | q
  · obtain ⟨k, t, -, -, -, h, -⟩ := dec_lo hn hn2 hu q
    exact ⟨_, t, h⟩
  · obtain ⟨k, t, -, -, -, h, -⟩ := dec_hi hn hn2 hu2 q
    exact ⟨_, t, h⟩
/-- three ways: a 2^e against b m^rt 2^(g rt) -/
def cpr (a b : Nat) (e : Int) (rt m : Nat) (g : Int) : Int := cmpz (a * 2 ^ (e - g * rt).toNat) (b * m ^ rt * 2 ^ (-(e - g * rt)).toNat)
theorem cmpz_mul {a b P : Nat} (hP : 0 < P) : cmpz (a * P) (b * P) = cmpz a b := by
  unfold cmpz
  have i1 : a * P < b * P ↔ a < b := Nat.mul_lt_mul_right hP
  have i2 : a * P = b * P ↔ a = b := ⟨fun z => Nat.mul_right_cancel hP z, fun z => by rw [z]⟩
  simp only [i1, i2]
/-- powers of two on both sides -/
theorem cmpz_sh {a b : Nat} {x y : Nat} {s : Int} (h : (x : Int) - y = s) : cmpz (a * 2 ^ x) (b * 2 ^ y) = cmpz (a * 2 ^ s.toNat) (b * 2 ^ (-s).toNat) := by
  rcases Nat.le_total y x with q | q
  · rw [show x = s.toNat + y from by omega, show (-s).toNat = 0 from by omega, Nat.pow_add, ← Nat.mul_assoc, cmpz_mul (p_pos y), Nat.pow_zero, Nat.mul_one]
  · rw [show y = (-s).toNat + x from by omega, show s.toNat = 0 from by omega, Nat.pow_add, ← Nat.mul_assoc, cmpz_mul (p_pos x), Nat.pow_zero, Nat.mul_one]
theorem cpr_sh {a b : Nat} {e : Int} {rt m j : Nat} {g : Int} : cpr a b e rt (m * 2 ^ j) (g - j) = cpr a b e rt m g := by
  unfold cpr
  have e1 : (m * 2 ^ j) ^ rt = m ^ rt * 2 ^ (j * rt) := by rw [Nat.mul_pow, ← Nat.pow_mul]
  have e2 : e - (g - j) * rt = e - g * rt + ((j * rt : Nat) : Int) := by rw [Int.sub_mul, Int.natCast_mul]; omega
  rw [e1, e2, ← Nat.mul_assoc, Nat.mul_assoc _ (2 ^ (j * rt)), ← Nat.pow_add]
  generalize e - g * (rt : Int) = s
  generalize j * rt = J
  generalize b * m ^ rt = B
  rw [← cmpz_sh (a := a) (b := B) (x := (s + (J : Int)).toNat) (y := J + (-(s + (J : Int))).toNat) (s := s) (by omega)]
theorem cpr_md {a b : Nat} {e : Int} {rt u n M : Nat} {E : Int} (h : md u n M E) : cpr a b e rt M E = cpr a b e rt (pM u n) (pE u n) := by
  obtain ⟨j, h1, h2⟩ := h
  rw [← h1, show pE u n = E - j from by omega, cpr_sh]
