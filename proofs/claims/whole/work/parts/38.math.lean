/-! Mathematics: how far patterns reach; the rounding -/
theorem pw_le {a b : Nat} (h : 2 ^ a ≤ 2 ^ b) : a ≤ b := (Nat.pow_le_pow_iff_right (by decide)).mp h
theorem pw_lt {a b : Nat} (h : 2 ^ a < 2 ^ b) : a < b := (Nat.pow_lt_pow_iff_right (by decide)).mp h
theorem pw2 {a b : Nat} (h : b = a + 1) : 2 ^ b = 2 * 2 ^ a := by rw [h, Nat.pow_succ, Nat.mul_comm]
theorem dec_b {u n : Nat} {r : Int} {t : Nat} (hn : 3 ≤ n ∧ n ≤ 33) (hu : 0 < u) (hu2 : u < 2 ^ (n - 1)) (h : dec u n r t) :
    -((n : Int) - 2) ≤ r ∧ r ≤ (n : Int) - 2 ∧ (0 ≤ r → ∃ q, t = q * 2 ^ (35 + r.toNat - n)) ∧ (r < 0 → ∃ q, t = q * 2 ^ (34 + (-r).toNat - n)) ∧ (r = (n : Int) - 2 → t = 0 ∧ u = 2 ^ (n - 1) - 1) ∧ (r = -((n : Int) - 2) → t = 0 ∧ u = 1) := by
  obtain ⟨h1, h2, h3, h4⟩ := h
  have hP := p_pos (73 - n)
  have e72 : 2 ^ 72 = 2 ^ (n - 1) * 2 ^ (73 - n) := by rw [← Nat.pow_add, show n - 1 + (73 - n) = 72 from by omega]
  unfold enc at h4
  by_cases z : 0 ≤ r
  · rw [if_pos z] at h4
    obtain ⟨k, ek⟩ : ∃ k : Nat, r = k := ⟨r.toNat, by omega⟩
    rw [show r.toNat = k from by omega] at h4 ⊢
    have hX := p_pos (38 - k)
    have e1 : 2 ^ (71 - k) ≤ 2 ^ 72 := Nat.pow_le_pow_right (by decide) (by omega)
    have h5 : (u + 1) * 2 ^ (73 - n) ≤ 2 ^ (n - 1) * 2 ^ (73 - n) := Nat.mul_le_mul_right _ (by omega)
    rw [← e72, Nat.add_mul, Nat.one_mul] at h5
    have h6 : 2 ^ (73 - n) + t * 2 ^ (38 - k) ≤ 2 ^ (71 - k) := by omega
    have h7 : 73 - n ≤ 71 - k := pw_le (Nat.le_trans (Nat.le_add_right _ _) h6)
    have hk : k ≤ n - 2 := by omega
    have e2 : 2 ^ (71 - k) = 2 ^ (n - 2 - k) * 2 ^ (73 - n) := by rw [← Nat.pow_add, show n - 2 - k + (73 - n) = 71 - k from by omega]
    refine ⟨by omega, by omega, fun _ => ?_, fun q => absurd z (by omega), fun q => ?_, fun q => absurd q (by omega)⟩
    · refine ⟨u + 2 ^ (n - 2 - k) - 2 ^ (n - 1), ?_⟩
      have e3 : 2 ^ (73 - n) = 2 ^ (35 + k - n) * 2 ^ (38 - k) := by rw [← Nat.pow_add, show 35 + k - n + (38 - k) = 73 - n from by omega]
      have e4 : (u + 2 ^ (n - 2 - k)) * 2 ^ (73 - n) = 2 ^ (n - 1) * 2 ^ (73 - n) + t * 2 ^ (38 - k) := by
        rw [Nat.add_mul, ← e2, ← e72]; omega
      have e5 : 2 ^ (n - 1) ≤ u + 2 ^ (n - 2 - k) := by
        have : 2 ^ (n - 1) * 2 ^ (73 - n) ≤ (u + 2 ^ (n - 2 - k)) * 2 ^ (73 - n) := by omega
        exact Nat.le_of_mul_le_mul_right this hP
      have e6 : t * 2 ^ (38 - k) = (u + 2 ^ (n - 2 - k) - 2 ^ (n - 1)) * 2 ^ (73 - n) := by rw [Nat.sub_mul]; omega
      rw [e3, ← Nat.mul_assoc] at e6
      exact Nat.mul_right_cancel hX e6
    · have ek2 : k = n - 2 := by omega
      rw [ek2, show 71 - (n - 2) = 73 - n from by omega] at h6 h4
      have ht : t = 0 := by
        rcases Nat.eq_zero_or_pos t with y | y
        · exact y
        · rw [ek2] at hX
          have := Nat.mul_pos y hX
          omega
      refine ⟨ht, ?_⟩
      rw [ht, Nat.zero_mul, Nat.add_zero, e72, show 2 ^ (n - 1) * 2 ^ (73 - n) - 2 ^ (73 - n) = (2 ^ (n - 1) - 1) * 2 ^ (73 - n) from by rw [Nat.sub_mul, Nat.one_mul]] at h4
      exact Nat.mul_right_cancel hP h4
  · rw [if_neg z] at h4
    obtain ⟨k, ek⟩ : ∃ k : Nat, -r = k := ⟨(-r).toNat, by omega⟩
    rw [show (-r).toNat = k from by omega] at h4 ⊢
    have hX := p_pos (39 - k)
    have e1 : 2 ^ (71 - k) = 4294967296 * 2 ^ (39 - k) := by rw [show (4294967296 : Nat) = 2 ^ 32 from rfl, ← Nat.pow_add, show 32 + (39 - k) = 71 - k from by omega]
    have h5 : t * 2 ^ (39 - k) < 4294967296 * 2 ^ (39 - k) := Nat.mul_lt_mul_of_pos_right h3 hX
    have e2 : 2 ^ (72 - k) = 2 * 2 ^ (71 - k) := pw2 (by omega)
    have h6 : 1 * 2 ^ (73 - n) ≤ u * 2 ^ (73 - n) := Nat.mul_le_mul_right _ hu
    have h7 : 73 - n < 72 - k := pw_lt (by omega)
    have e3 : 2 ^ (71 - k) = 2 ^ (n - 2 - k) * 2 ^ (73 - n) := by rw [← Nat.pow_add, show n - 2 - k + (73 - n) = 71 - k from by omega]
    refine ⟨by omega, by omega, fun q => absurd q (by omega), fun _ => ?_, fun q => absurd q (by omega), fun q => ?_⟩
    · refine ⟨u - 2 ^ (n - 2 - k), ?_⟩
      have e4 : 2 ^ (73 - n) = 2 ^ (34 + k - n) * 2 ^ (39 - k) := by rw [← Nat.pow_add, show 34 + k - n + (39 - k) = 73 - n from by omega]
      have e6 : t * 2 ^ (39 - k) = (u - 2 ^ (n - 2 - k)) * 2 ^ (73 - n) := by rw [Nat.sub_mul, ← e3]; omega
      rw [e4, ← Nat.mul_assoc] at e6
      exact Nat.mul_right_cancel hX e6
    · have ek2 : k = n - 2 := by omega
      rw [ek2, show 71 - (n - 2) = 73 - n from by omega] at h4 e1
      rw [ek2] at h5 hX
      have hu1 : u = 1 := by
        rcases Nat.lt_or_ge 1 u with y | y
        · have : 2 * 2 ^ (73 - n) ≤ u * 2 ^ (73 - n) := Nat.mul_le_mul_right _ y
          omega
        · omega
      rw [hu1, Nat.one_mul] at h4
      refine ⟨?_, hu1⟩
      rcases Nat.eq_zero_or_pos t with y | y
      · exact y
      · have := Nat.mul_pos y hX; omega
/-- an odd number times a power of two -/
theorem odd_pw {s j m e : Nat} (hs : s % 2 = 1) (h : s * 2 ^ j = m * 2 ^ e) : e ≤ j := by
  rcases Nat.lt_or_ge j e with q | q
  · have e1 : 2 ^ e = 2 * 2 ^ (e - j - 1) * 2 ^ j := by rw [Nat.mul_comm 2, ← Nat.pow_succ, ← Nat.pow_add, show e - j - 1 + 1 + j = e from by omega]
    rw [e1, ← Nat.mul_assoc] at h
    have := Nat.mul_right_cancel (p_pos j) h
    rw [this, Nat.mul_left_comm] at hs
    omega
  · exact q
theorem ld_b {u n sg : Nat} {ex : Int} (hn : 3 ≤ n ∧ n ≤ 33) (hu : 0 < u) (hu2 : u < 2 ^ (n - 1)) (h33 : n = 33 → 2 ≤ u ∧ u + 2 ≤ 2 ^ 32) (h : ld u n sg ex) : 0 < sg ∧ sg < 1073741824 ∧ -120 ≤ ex ∧ ex ≤ 120 := by
  obtain ⟨r, t, j, h1, h2, h3, h4⟩ := h
  obtain ⟨b1, b2, b3, b4, b5, b6⟩ := dec_b hn hu hu2 h1
  have ht := h1.2.2.1
  have hm : t % 1073741824 < 1073741824 := Nat.mod_lt _ (by decide)
  have hs0 : 0 < sg := by omega
  have hj : j ≤ 30 := by
    rcases Nat.lt_or_ge 30 j with q | q
    · have : 2 ^ 31 ≤ 2 ^ j := Nat.pow_le_pow_right (by decide) q
      have : 1 * 2 ^ j ≤ sg * 2 ^ j := Nat.mul_le_mul_right _ hs0
      omega
    · exact q
  -- a power of two in the tail
  have key : ∀ e q : Nat, t = q * 2 ^ e → (e ≤ 30 → e ≤ j) ∧ (30 ≤ e → j = 30) := by
    intro e q et
    constructor
    · intro he
      have e1 : 1073741824 = 2 ^ (30 - e) * 2 ^ e := by rw [← Nat.pow_add, show 30 - e + e = 30 from by omega]
      have e2 : t % 1073741824 = q % 2 ^ (30 - e) * 2 ^ e := by rw [et, e1]; exact Nat.mul_mod_mul_right _ _ _
      rw [e2] at h2
      have h5 : sg * 2 ^ j = (2 ^ (30 - e) + q % 2 ^ (30 - e)) * 2 ^ e := by rw [Nat.add_mul, ← e1, h2]
      exact odd_pw h3 h5
    · intro he
      have e2 : t % 1073741824 = 0 := by
        rw [et, show 2 ^ e = 2 ^ (e - 30) * 1073741824 from by rw [show (1073741824 : Nat) = 2 ^ 30 from rfl, ← Nat.pow_add, show e - 30 + 30 = e from by omega], ← Nat.mul_assoc]
        exact Nat.mul_mod_left _ _
      rw [e2] at h2
      have := odd_pw (m := 1) (e := 30) h3 (by rw [h2])
      omega
  have big : ∀ e q : Nat, t = q * 2 ^ e → 32 ≤ e → t = 0 := by
    intro e q et he
    rcases Nat.eq_zero_or_pos q with y | y
    · rw [et, y, Nat.zero_mul]
    · have : 2 ^ 32 ≤ 2 ^ e := Nat.pow_le_pow_right (by decide) he
      have : 1 * 2 ^ e ≤ q * 2 ^ e := Nat.mul_le_mul_right _ y
      omega
  have hdiv : t / 1073741824 ≤ 3 := by omega
  have fin : 1 ≤ j → sg < 1073741824 := by
    intro y
    have : 2 ^ 1 ≤ 2 ^ j := Nat.pow_le_pow_right (by decide) y
    have : sg * 2 ^ 1 ≤ sg * 2 ^ j := Nat.mul_le_mul_left _ this
    omega
  by_cases z : 0 ≤ r
  · obtain ⟨q, eq⟩ := b3 z
    have k1 := key _ q eq
    have hj1 : 1 ≤ j := by
      rcases Nat.le_total (35 + r.toNat - n) 30 with y | y
      · have := k1.1 y; omega
      · have := k1.2 y; omega
    refine ⟨hs0, fin hj1, by omega, ?_⟩
    rcases Int.lt_or_le r 30 with y | y
    · omega
    · have ht0 := big _ q eq (by omega)
      have e0 : t / 1073741824 = 0 := by rw [ht0]
      rcases Int.lt_or_le r 31 with y2 | y2
      · omega
      · have := b5 (by omega)
        have := h33 (by omega)
        have e33 : n = 33 := by omega
        rw [e33] at b5
        have := (b5 (by omega)).2
        omega
  · obtain ⟨q, eq⟩ := b4 (by omega)
    have k1 := key _ q eq
    have hj1 : 1 ≤ j := by
      rcases Nat.le_total (34 + (-r).toNat - n) 30 with y | y
      · have := k1.1 y; omega
      · have := k1.2 y; omega
    refine ⟨hs0, fin hj1, ?_, by omega⟩
    rcases Nat.le_total (34 + (-r).toNat - n) 30 with y | y
    · have := k1.1 y; omega
    · have := k1.2 y
      rcases Int.lt_or_le r (-30) with y2 | y2
      · have e33 : n = 33 := by omega
        have := h33 e33
        rw [e33] at b6
        have := (b6 (by omega)).2
        omega
      · omega
/-- how C tells a number of scale sc with the 31 bits kp (and a little more) from the patterns -/
def AP (C : Nat → Nat → Int) (sc : Int) (kp : Nat) (mo : Bool) : Prop := ∀ (u w : Nat) (r : Int) (t : Nat), 3 ≤ w → w ≤ 33 → 0 < u → u < 2 ^ (w - 1) → dec u w r t → (lexl (sc / 4) (tailOf sc kp) r t → C u w = -1) ∧ (lexl r t (sc / 4) (tailOf sc kp) → C u w = 1) ∧ (r = sc / 4 → t = tailOf sc kp → C u w = cond mo 1 0)
theorem lexl_t {r r' : Int} {t t' : Nat} : lexl r t r' t' ∨ lexl r' t' r t ∨ (r = r' ∧ t = t') := by
  unfold lexl
  omega
theorem dec_one {n : Nat} (hn : 3 ≤ n ∧ n ≤ 33) : dec 1 n (-((n : Int) - 2)) 0 := by
  refine ⟨by omega, by omega, by decide, ?_⟩
  unfold enc
  rw [if_neg (by omega), Nat.zero_mul, Nat.add_zero, Nat.one_mul, show (- -((n : Int) - 2)).toNat = n - 2 from by omega, show 71 - (n - 2) = 73 - n from by omega]
theorem dec_max {n : Nat} (hn : 3 ≤ n ∧ n ≤ 33) : dec (2 ^ (n - 1) - 1) n ((n : Int) - 2) 0 := by
  refine ⟨by omega, by omega, by decide, ?_⟩
  unfold enc
  rw [if_pos (by omega), Nat.zero_mul, Nat.add_zero, show ((n : Int) - 2).toNat = n - 2 from by omega, show 71 - (n - 2) = 73 - n from by omega, Nat.sub_mul, Nat.one_mul, ← Nat.pow_add, show n - 1 + (73 - n) = 72 from by omega]
/-- the reference's rounding is the class's -/
theorem rd_eq {C : Nat → Nat → Int} {sc : Int} {kp n : Nat} {mo : Bool} (hn : 3 ≤ n ∧ n ≤ 32) (h : AP C sc kp mo) : rdS C n = rsz n sc kp mo := by
  have hp2 : 2 ^ 2 ≤ 2 ^ (n - 1) := Nat.pow_le_pow_right (by decide) (by omega)
  have h1 := h 1 n _ _ hn.1 (by omega) (by decide) (by omega) (dec_one (by omega))
  have hmx := h (2 ^ (n - 1) - 1) n _ _ hn.1 (by omega) (by omega) (by omega) (dec_max (by omega))
  obtain ⟨m, em⟩ : ∃ m, tailOf sc kp = m := ⟨_, rfl⟩
  have hm := tail_lt (scale := sc) (kept := kp)
  rw [em] at h1 hmx hm
  unfold rdS rsz
  by_cases c1 : 4 * ((n : Int) - 2) ≤ sc
  · rw [if_pos c1]
    have k1 : C 1 n = 1 := h1.2.1 (Or.inl (by omega))
    have k2 : 0 ≤ C (2 ^ (n - 1) - 1) n := by
      rcases lexl_t (r := sc / 4) (t := m) (r' := (n : Int) - 2) (t' := 0) with y | y | y
      · unfold lexl at y; omega
      · rw [hmx.2.1 y]; decide
      · rw [hmx.2.2 (by omega) (by omega)]; cases mo <;> decide
    rw [if_neg (by omega), if_pos k2]
  · rw [if_neg c1]
    by_cases c2 : sc < -(4 * ((n : Int) - 2))
    · rw [if_pos c2]
      have k1 : C 1 n = -1 := h1.1 (Or.inl (by omega))
      rw [if_pos (by omega)]
    · rw [if_neg c2]
      have hr1 : -((n : Int) - 2) ≤ sc / 4 := by omega
      have hr2 : sc / 4 ≤ (n : Int) - 3 := by omega
      have kM : C (2 ^ (n - 1) - 1) n = -1 := hmx.1 (Or.inl (by omega))
      rw [em]
      obtain ⟨U, eU⟩ : ∃ U, enc (sc / 4) m = U := ⟨_, rfl⟩
      rw [eU]
      have hP := p_pos (72 - n)
      have e73 : 2 ^ (73 - n) = 2 * 2 ^ (72 - n) := pw2 (by omega)
      obtain ⟨P, eP⟩ : ∃ P, 2 ^ (72 - n) = P := ⟨_, rfl⟩
      rw [eP] at e73 hP
      -- the order of a pattern of width n or n + 1, by its bits
      have ord : ∀ (u w : Nat) (B : Nat), w ≤ 33 → 3 ≤ w → 0 < u → u < 2 ^ (w - 1) → u * 2 ^ (73 - w) = B → (U < B → C u w = -1) ∧ (B < U → C u w = 1) ∧ (U = B → C u w = cond mo 1 0) := by
        intro u w B hw hw3 hu0 hu eB
        obtain ⟨r, t, hd⟩ := dec_ex hw3 hw hu0 hu
        have hc := h u w r t hw3 hw hu0 hu hd
        rw [em] at hc
        obtain ⟨d1, d2, d3, d4⟩ := hd
        rw [eB] at d4
        refine ⟨fun y => hc.1 ?_, fun y => hc.2.1 ?_, fun y => ?_⟩
        · exact (enc_lex (by omega) (by omega) d1 d2 hm d3).mp (by rw [eU, ← d4]; exact y)
        · exact (enc_lex d1 d2 (by omega) (by omega) d3 hm).mp (by rw [eU, ← d4]; exact y)
        · have := enc_inj (r := r) (t := t) (r' := sc / 4) (t' := m) d1 d2 (by omega) (by omega) d3 hm (by rw [← d4, eU, y])
          exact hc.2.2 this.1 this.2
      have o1 := ord 1 n (2 * P) (by omega) (by omega) (by decide) (by omega) (by rw [Nat.one_mul, e73])
      have hU1 : 2 * P ≤ U := by
        rcases Nat.lt_or_ge U (2 * P) with y | y
        · have a1 := o1.1 y
          rcases lexl_t (r := sc / 4) (t := m) (r' := -((n : Int) - 2)) (t' := 0) with z | z | z
          · unfold lexl at z; omega
          · rw [h1.2.1 z] at a1; omega
          · rw [h1.2.2 (by omega) (by omega)] at a1; cases mo <;> simp at a1
        · exact y
      unfold cut
      rw [eP, e73]
      by_cases c3 : C 1 n ≤ 0
      · rw [if_pos c3]
        have hUe : U = 2 * P ∧ mo = false := by
          rcases Nat.lt_or_ge (2 * P) U with y | y
          · rw [o1.2.1 y] at c3; omega
          · have e1 : U = 2 * P := by omega
            rw [o1.2.2 e1] at c3
            cases mo
            · exact ⟨e1, rfl⟩
            · simp at c3
        have e1 : U % (2 * P) = 0 := by rw [hUe.1]; exact Nat.mod_self _
        have e2 : U / (2 * P) = 1 := by rw [hUe.1]; exact Nat.div_self (by omega)
        rw [e1, e2, if_neg (by omega)]
      · rw [if_neg c3, if_neg (by omega)]
        have hb := bsr_spec (f := fun u => C u n) (2 ^ (n - 1)) 1 (2 ^ (n - 1) - 1) (by omega) (by omega) (by omega) (by show C (2 ^ (n - 1) - 1) n < 0; omega)
        obtain ⟨low, el⟩ : ∃ low, bsr (fun u => C u n) (2 ^ (n - 1)) 1 (2 ^ (n - 1) - 1) = low := ⟨_, rfl⟩
        rw [el] at hb ⊢
        obtain ⟨l1, l2, l3, l4⟩ := hb
        have l3 : 0 ≤ C low n := l3
        have l4 : C (low + 1) n < 0 := l4
        have oL := ord low n (low * (2 * P)) (by omega) (by omega) (by omega) (by omega) (by rw [e73])
        have oH := ord (low + 1) n ((low + 1) * (2 * P)) (by omega) (by omega) (by omega) (by omega) (by rw [e73])
        have hw1 : 2 ^ (n + 1 - 1) = 2 * 2 ^ (n - 1) := pw2 (by omega)
        have oM := ord (2 * low + 1) (n + 1) ((2 * low + 1) * P) (by omega) (by omega) (by omega) (by rw [hw1]; omega) (by rw [show 73 - (n + 1) = 72 - n from by omega, eP])
        have a1 : low * (2 * P) ≤ U := by
          rcases Nat.lt_or_ge U (low * (2 * P)) with y | y
          · rw [oL.1 y] at l3; omega
          · exact y
        have a2 : U < (low + 1) * (2 * P) := by
          rcases Nat.lt_trichotomy U ((low + 1) * (2 * P)) with y | y | y
          · exact y
          · rw [oH.2.2 y] at l4; cases mo <;> simp at l4
          · rw [oH.2.1 y] at l4; omega
        have a3 : U / (2 * P) = low := by
          apply Nat.div_eq_of_lt_le
          · exact a1
          · exact a2
        have a4 : U % (2 * P) = U - low * (2 * P) := by
          have := Nat.div_add_mod U (2 * P)
          rw [a3, Nat.mul_comm] at this
          omega
        rw [a3, a4]
        have e5 : (2 * low + 1) * P = low * (2 * P) + P := by rw [Nat.add_mul, Nat.one_mul, Nat.mul_comm 2 low, Nat.mul_assoc]
        rw [e5] at oM
        obtain ⟨X, eX⟩ : ∃ X, low * (2 * P) = X := ⟨_, rfl⟩
        rw [eX] at oM a1 ⊢
        rcases Nat.lt_trichotomy U (X + P) with y | y | y
        · rw [oM.1 y, if_pos (Or.inl (by decide)), if_neg (by omega)]
        · have o3 := oM.2.2 y
          cases mo
          · have o4 : C (2 * low + 1) (n + 1) = 0 := o3
            rw [o4]
            by_cases q2 : low % 2 = 0
            · rw [if_pos (Or.inr ⟨rfl, q2⟩), if_neg (by simp; omega)]
            · rw [if_neg (by simp; omega), if_pos (Or.inr ⟨by omega, Or.inr (by omega)⟩)]
          · have o4 : C (2 * low + 1) (n + 1) = 1 := o3
            rw [o4, if_neg (by simp), if_pos (Or.inr ⟨by omega, Or.inl rfl⟩)]
        · rw [oM.2.1 y, if_neg (by simp), if_pos (Or.inl (by omega))]
