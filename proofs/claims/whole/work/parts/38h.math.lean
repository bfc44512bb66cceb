/-! Mathematics: the interval that rounds to a pattern -/
/-- C falls as the patterns rise -/
def MC (C : Nat → Nat → Int) : Prop := ∀ u1 w1 u2 w2 : Nat, 3 ≤ w1 → w1 ≤ 33 → 0 < u1 → u1 < 2 ^ (w1 - 1) → 3 ≤ w2 → w2 ≤ 33 → 0 < u2 → u2 < 2 ^ (w2 - 1) → (u1 * 2 ^ (73 - w1) < u2 * 2 ^ (73 - w2) → (0 ≤ C u2 w2 → C u1 w1 = 1) ∧ (C u1 w1 ≤ 0 → C u2 w2 = -1)) ∧ (u1 * 2 ^ (73 - w1) = u2 * 2 ^ (73 - w2) → C u1 w1 = C u2 w2)
theorem MC_of {a b : Nat} {e : Int} {rt : Nat} (hb : 0 < b) (hr : 1 ≤ rt) : MC (CP a b e rt) := by
  intro u1 w1 u2 w2 hw1 hw1' hu1 hu1' hw2 hw2' hu2 hu2'
  obtain ⟨r1, t1, d1⟩ := dec_ex hw1 hw1' hu1 hu1'
  obtain ⟨r2, t2, d2⟩ := dec_ex hw2 hw2' hu2 hu2'
  have e1 : pM u1 w1 = 1073741824 + t1 % 1073741824 := by unfold pM; rw [dec_R d1]
  have f1 : pE u1 w1 = 4 * r1 + ((t1 / 1073741824 : Nat) : Int) - 30 := by unfold pE; rw [dec_R d1]
  have e2 : pM u2 w2 = 1073741824 + t2 % 1073741824 := by unfold pM; rw [dec_R d2]
  have f2 : pE u2 w2 = 4 * r2 + ((t2 / 1073741824 : Nat) : Int) - 30 := by unfold pE; rw [dec_R d2]
  obtain ⟨a1, a2, a3, a4⟩ := d1
  obtain ⟨b1, b2, b3, b4⟩ := d2
  unfold CP
  rw [e1, f1, e2, f2, a4, b4]
  constructor
  · intro h
    have hl := (enc_lex a1 a2 b1 b2 a3 b3).mp h
    unfold lexl at hl
    obtain ⟨q1, eq1⟩ : ∃ q, t1 / 1073741824 = q := ⟨_, rfl⟩
    obtain ⟨g1, eg1⟩ : ∃ f, t1 % 1073741824 = f := ⟨_, rfl⟩
    obtain ⟨q2, eq2⟩ : ∃ q, t2 / 1073741824 = q := ⟨_, rfl⟩
    obtain ⟨g2, eg2⟩ : ∃ f, t2 % 1073741824 = f := ⟨_, rfl⟩
    rw [eq1, eg1, eq2, eg2]
    rcases Int.lt_or_le (4 * r1 + q1) (4 * r2 + q2) with z | z
    · have h1 : 2 ^ 1 ≤ 2 ^ (4 * r2 + (q2 : Int) - 30 - (4 * r1 + (q1 : Int) - 30)).toNat := Nat.pow_le_pow_right (by decide) (by omega)
      have h2 : (1073741824 + g2) * 2 ^ 1 ≤ (1073741824 + g2) * 2 ^ (4 * r2 + (q2 : Int) - 30 - (4 * r1 + (q1 : Int) - 30)).toNat := Nat.mul_le_mul_left _ h1
      rw [cpr_up (g := 4 * r2 + (q2 : Int) - 30) (g' := 4 * r1 + (q1 : Int) - 30) (by omega)]
      exact ⟨fun y => cpr_s hb hr (by omega) y, fun y => cpr_s2 hb hr (by omega) y⟩
    · have es : 4 * r1 + (q1 : Int) = 4 * r2 + q2 := by omega
      rw [es]
      exact ⟨fun y => cpr_s hb hr (by omega) y, fun y => cpr_s2 hb hr (by omega) y⟩
  · intro h
    have := enc_inj a1 a2 b1 b2 a3 b3 h
    rw [this.1, this.2]
theorem rd_iv {C : Nat → Nat → Int} {n u : Nat} (hn : 3 ≤ n ∧ n ≤ 32) (hC : MC C) (hu : 0 < u) (hu2 : u < 2 ^ (n - 1)) :
    rdS C n = u ↔ (u = 1 ∨ 0 < C (2 * u - 1) (n + 1) ∨ (C (2 * u - 1) (n + 1) = 0 ∧ u % 2 = 0)) ∧ (u = 2 ^ (n - 1) - 1 ∨ C (2 * u + 1) (n + 1) < 0 ∨ (C (2 * u + 1) (n + 1) = 0 ∧ u % 2 = 0)) := by
  have hp2 : 2 ^ 2 ≤ 2 ^ (n - 1) := Nat.pow_le_pow_right (by decide) (by omega)
  have hw1 : 2 ^ (n + 1 - 1) = 2 * 2 ^ (n - 1) := pw2 (by omega)
  have e73 : 2 ^ (73 - n) = 2 * 2 ^ (73 - (n + 1)) := pw2 (by omega)
  have hP := p_pos (73 - (n + 1))
  -- patterns of width n + 1
  have up : ∀ v, 0 < v → v < 2 ^ (n - 1) → C v n = C (2 * v) (n + 1) := fun v h1 h2 =>
    (hC v n (2 * v) (n + 1) hn.1 (by omega) h1 h2 (by omega) (by omega) (by omega) (by rw [hw1]; omega)).2 (by rw [e73, ← Nat.mul_assoc, Nat.mul_comm v 2])
  have lt : ∀ v v', 0 < v → v < v' → v' < 2 * 2 ^ (n - 1) → (0 ≤ C v' (n + 1) → C v (n + 1) = 1) ∧ (C v (n + 1) ≤ 0 → C v' (n + 1) = -1) := fun v v' h1 h2 h3 =>
    (hC v (n + 1) v' (n + 1) (by omega) (by omega) h1 (by rw [hw1]; omega) (by omega) (by omega) (by omega) (by rw [hw1]; omega)).1 (Nat.mul_lt_mul_of_pos_right h2 hP)
  have uniq : ∀ v v', 0 < v → v < v' → v' < 2 ^ (n - 1) → (C (2 * v + 1) (n + 1) < 0 ∨ (C (2 * v + 1) (n + 1) = 0 ∧ v % 2 = 0)) → (0 < C (2 * v' - 1) (n + 1) ∨ (C (2 * v' - 1) (n + 1) = 0 ∧ v' % 2 = 0)) → False := by
    intro v v' h1 h2 h3 h4 h5
    rcases Nat.lt_or_ge (2 * v + 1) (2 * v' - 1) with z | z
    · have := (lt (2 * v + 1) (2 * v' - 1) (by omega) z (by omega)).2 (by omega)
      omega
    · have e : 2 * v' - 1 = 2 * v + 1 := by omega
      rw [e] at h5
      omega
  have sat : 0 < rdS C n ∧ rdS C n < 2 ^ (n - 1) ∧ (rdS C n = 1 ∨ 0 < C (2 * rdS C n - 1) (n + 1) ∨ (C (2 * rdS C n - 1) (n + 1) = 0 ∧ rdS C n % 2 = 0)) ∧ (rdS C n = 2 ^ (n - 1) - 1 ∨ C (2 * rdS C n + 1) (n + 1) < 0 ∨ (C (2 * rdS C n + 1) (n + 1) = 0 ∧ rdS C n % 2 = 0)) := by
    unfold rdS
    by_cases c1 : C 1 n ≤ 0
    · rw [if_pos c1]
      refine ⟨by decide, by omega, Or.inl rfl, Or.inr (Or.inl ?_)⟩
      rw [up 1 (by decide) (by omega)] at c1
      have := (lt 2 3 (by decide) (by decide) (by omega)).2 c1
      show C 3 (n + 1) < 0
      omega
    · rw [if_neg c1]
      by_cases c2 : 0 ≤ C (2 ^ (n - 1) - 1) n
      · rw [if_pos c2]
        refine ⟨by omega, by omega, Or.inr (Or.inl ?_), Or.inl rfl⟩
        rw [up _ (by omega) (by omega)] at c2
        have := (lt (2 * (2 ^ (n - 1) - 1) - 1) (2 * (2 ^ (n - 1) - 1)) (by omega) (by omega) (by omega)).1 c2
        omega
      · rw [if_neg c2]
        have hb := bsr_spec (f := fun u => C u n) (2 ^ (n - 1)) 1 (2 ^ (n - 1) - 1) (by omega) (by omega) (by omega) (by show C (2 ^ (n - 1) - 1) n < 0; omega)
        obtain ⟨low, el⟩ : ∃ low, bsr (fun u => C u n) (2 ^ (n - 1)) 1 (2 ^ (n - 1) - 1) = low := ⟨_, rfl⟩
        rw [el] at hb ⊢
        obtain ⟨l1, l2, l3, l4⟩ := hb
        have l3 : 0 ≤ C low n := l3
        have l4 : C (low + 1) n < 0 := l4
        rw [up low (by omega) (by omega)] at l3
        rw [up (low + 1) (by omega) (by omega)] at l4
        by_cases c3 : C (2 * low + 1) (n + 1) < 0 ∨ (C (2 * low + 1) (n + 1) = 0 ∧ low % 2 = 0)
        · rw [if_pos c3]
          refine ⟨by omega, by omega, Or.inr (Or.inl ?_), Or.inr c3⟩
          have := (lt (2 * low - 1) (2 * low) (by omega) (by omega) (by omega)).1 l3
          omega
        · rw [if_neg c3]
          refine ⟨by omega, by omega, Or.inr ?_, ?_⟩
          · rw [show 2 * (low + 1) - 1 = 2 * low + 1 from by omega]
            omega
          · rcases Nat.lt_or_ge (low + 1) (2 ^ (n - 1) - 1) with y | y
            · right; left
              have := (lt (2 * (low + 1)) (2 * (low + 1) + 1) (by omega) (by omega) (by omega)).2 (by omega)
              omega
            · left; omega
  obtain ⟨s1, s2, s3, s4⟩ := sat
  constructor
  · intro h
    rw [h] at s3 s4
    exact ⟨s3, s4⟩
  · intro ⟨h1, h2⟩
    rcases Nat.lt_trichotomy (rdS C n) u with y | y | y
    · exact (uniq (rdS C n) u s1 y hu2 (by omega) (by omega)).elim
    · exact y
    · exact (uniq u (rdS C n) hu y s2 (by omega) (by omega)).elim
