/-! Mathematics: what is rounded, by bounds -/
theorem cmpz_mono {x y y' : Nat} (h : y ≤ y') : cmpz x y' ≤ cmpz x y := by
  have h1 := cmpz_lt (v := x) (w := y)
  have h2 := cmpz_eq (v := x) (w := y)
  have h3 := cmpz_r x y
  have h4 := cmpz_lt (v := x) (w := y')
  have h5 := cmpz_eq (v := x) (w := y')
  have h6 := cmpz_r x y'
  omega
theorem cmpz_str {x y y' : Nat} (h : y < y') (h2 : 0 ≤ cmpz x y') : cmpz x y = 1 := by
  unfold cmpz at h2 ⊢
  rcases Nat.lt_or_ge x y' with q | q
  · rw [if_pos q] at h2; exact absurd h2 (by decide)
  · rw [if_neg (by omega), if_neg (by omega)]
theorem cmpz_str2 {x y y' : Nat} (h : y < y') (h2 : cmpz x y ≤ 0) : cmpz x y' = -1 := by
  unfold cmpz at h2 ⊢
  rcases Nat.lt_trichotomy x y with q | q | q
  · rw [if_pos (by omega)]
  · rw [if_pos (by omega)]
  · rw [if_neg (by omega), if_neg (by omega)] at h2; exact absurd h2 (by decide)
section
variable {a b : Nat} {e : Int} {rt : Nat}
/-- the same unit on both sides -/
theorem cpr_m {m m' : Nat} {g : Int} (h : m ≤ m') : cpr a b e rt m' g ≤ cpr a b e rt m g := by
  unfold cpr
  exact cmpz_mono (Nat.mul_le_mul_right _ (Nat.mul_le_mul_left _ (Nat.pow_le_pow_left h rt)))
theorem cpr_lt {m m' : Nat} (g : Int) (hb : 0 < b) (hr : 1 ≤ rt) (h : m < m') : b * m ^ rt * 2 ^ (-(e - g * rt)).toNat < b * m' ^ rt * 2 ^ (-(e - g * rt)).toNat :=
  Nat.mul_lt_mul_of_pos_right (Nat.mul_lt_mul_of_pos_left (Nat.pow_lt_pow_left h (by omega)) hb) (p_pos _)
theorem cpr_s {m m' : Nat} {g : Int} (hb : 0 < b) (hr : 1 ≤ rt) (h : m < m') (h2 : 0 ≤ cpr a b e rt m' g) : cpr a b e rt m g = 1 := by
  unfold cpr at h2 ⊢
  exact cmpz_str (cpr_lt (e := e) g hb hr h) h2
theorem cpr_s2 {m m' : Nat} {g : Int} (hb : 0 < b) (hr : 1 ≤ rt) (h : m < m') (h2 : cpr a b e rt m g ≤ 0) : cpr a b e rt m' g = -1 := by
  unfold cpr at h2 ⊢
  exact cmpz_str2 (cpr_lt (e := e) g hb hr h) h2
/-- m 2^g against m' 2^g', where g is not below g' -/
theorem cpr_up {m : Nat} {g g' : Int} (h : g' ≤ g) : cpr a b e rt m g = cpr a b e rt (m * 2 ^ (g - g').toNat) g' := by
  have := cpr_sh (a := a) (b := b) (e := e) (rt := rt) (m := m) (j := (g - g').toNat) (g := g)
  rw [show g - ((g - g').toNat : Int) = g' from by omega] at this
  exact this.symm
theorem cpr_rg {m : Nat} {g : Int} : -1 ≤ cpr a b e rt m g ∧ cpr a b e rt m g ≤ 1 := by unfold cpr; exact cmpz_r _ _
/-- 31 bits that bound a value -/
def BD (a b : Nat) (e : Int) (rt : Nat) (sc : Int) (kp : Nat) (mo : Bool) : Prop := 0 < b ∧ 1 ≤ rt ∧ 1073741824 ≤ kp ∧ kp < 2147483648 ∧ cpr a b e rt kp (sc - 30) = cond mo 1 0 ∧ cpr a b e rt (kp + 1) (sc - 30) = -1
theorem BD_ap {sc : Int} {kp : Nat} {mo : Bool} (h : BD a b e rt sc kp mo) : AP (CP a b e rt) sc kp mo := by
  obtain ⟨hb, hr, k1, k2, k3, k4⟩ := h
  intro u w r t hw1 hw2 hu1 hu2 hd
  have ht := hd.2.2.1
  have eM : pM u w = 1073741824 + t % 1073741824 := by unfold pM; rw [dec_R hd]
  have eE : pE u w = 4 * r + ((t / 1073741824 : Nat) : Int) - 30 := by unfold pE; rw [dec_R hd]
  unfold CP
  rw [eM, eE]
  obtain ⟨q, eq⟩ : ∃ q, t / 1073741824 = q := ⟨_, rfl⟩
  obtain ⟨f, ef⟩ : ∃ f, t % 1073741824 = f := ⟨_, rfl⟩
  rw [eq, ef]
  have hq : q < 4 := by omega
  have hf : f < 1073741824 := by omega
  have et : t = 1073741824 * q + f := by omega
  have etl : tailOf sc kp = 1073741824 * (sc % 4).toNat + (kp - 1073741824) := by unfold tailOf; omega
  have hs4 : 0 ≤ sc % 4 ∧ sc % 4 < 4 := by omega
  have hs0 : 0 ≤ cpr a b e rt kp (sc - 30) := by rw [k3]; cases mo <;> decide
  refine ⟨fun y => ?_, fun y => ?_, fun y1 y2 => ?_⟩
  · unfold lexl at y
    rw [etl, et] at y
    rcases Int.lt_or_le sc (4 * r + q) with z | z
    · rw [cpr_up (g := 4 * r + (q : Int) - 30) (g' := sc - 30) (by omega)]
      have h1 : 2 ^ 1 ≤ 2 ^ (4 * r + (q : Int) - 30 - (sc - 30)).toNat := Nat.pow_le_pow_right (by decide) (by omega)
      have h2 : (1073741824 + f) * 2 ^ 1 ≤ (1073741824 + f) * 2 ^ (4 * r + (q : Int) - 30 - (sc - 30)).toNat := Nat.mul_le_mul_left _ h1
      have h3 := cpr_m (a := a) (b := b) (e := e) (rt := rt) (g := sc - 30) (show kp + 1 ≤ (1073741824 + f) * 2 ^ (4 * r + (q : Int) - 30 - (sc - 30)).toNat by omega)
      have h4 := cpr_rg (a := a) (b := b) (e := e) (rt := rt) (m := (1073741824 + f) * 2 ^ (4 * r + (q : Int) - 30 - (sc - 30)).toNat) (g := sc - 30)
      omega
    · have es : 4 * r + (q : Int) = sc := by omega
      rw [es]
      have h3 := cpr_m (a := a) (b := b) (e := e) (rt := rt) (g := sc - 30) (show kp + 1 ≤ 1073741824 + f by omega)
      have h4 := cpr_rg (a := a) (b := b) (e := e) (rt := rt) (m := 1073741824 + f) (g := sc - 30)
      omega
  · unfold lexl at y
    rw [etl, et] at y
    rcases Int.lt_or_le (4 * r + q) sc with z | z
    · rw [cpr_up (g := sc - 30) (g' := 4 * r + (q : Int) - 30) (by omega)] at hs0
      have h1 : 2 ^ 1 ≤ 2 ^ (sc - 30 - (4 * r + (q : Int) - 30)).toNat := Nat.pow_le_pow_right (by decide) (by omega)
      have h2 : kp * 2 ^ 1 ≤ kp * 2 ^ (sc - 30 - (4 * r + (q : Int) - 30)).toNat := Nat.mul_le_mul_left _ h1
      exact cpr_s hb hr (show 1073741824 + f < kp * 2 ^ (sc - 30 - (4 * r + (q : Int) - 30)).toNat by omega) hs0
    · have es : 4 * r + (q : Int) = sc := by omega
      rw [es]
      exact cpr_s hb hr (show 1073741824 + f < kp by omega) hs0
  · have es : 4 * r + (q : Int) = sc := by omega
    rw [es, show 1073741824 + f = kp from by omega]
    exact k3
/-- a whole number S that bounds a value, in units of 2^X -/
def BS (a b : Nat) (e : Int) (rt : Nat) (S : Nat) (X : Int) (mo : Bool) : Prop := 0 < b ∧ 1 ≤ rt ∧ 0 < S ∧ (mo = true → 31 ≤ nb S) ∧ cpr a b e rt S X = cond mo 1 0 ∧ cpr a b e rt (S + 1) X = -1
theorem BS_ex {S : Nat} {X : Int} (hb : 0 < b) (hr : 1 ≤ rt) (hS : 0 < S) (h : cpr a b e rt S X = 0) : BS a b e rt S X false :=
  ⟨hb, hr, hS, fun z => Bool.noConfusion z, h, cpr_s2 hb hr (Nat.lt_succ_self S) (by rw [h]; decide)⟩
theorem BS_bd {S : Nat} {X : Int} {mo : Bool} (h : BS a b e rt S X mo) : BD a b e rt (X + (nb S : Nat) - 1) (kpt S) (mo || lost S) := by
  obtain ⟨hb, hr, hS, hm, k3, k4⟩ := h
  have n1 := nb_lo (x := S) (by omega)
  have n2 := nb_hi S
  have n3 := nb_pos (x := S) (by omega)
  have hs0 : 0 ≤ cpr a b e rt S X := by rw [k3]; cases mo <;> decide
  unfold BD lost
  unfold kpt
  rcases Nat.lt_or_ge 31 (nb S) with z | z
  · rw [if_pos z]
    obtain ⟨j, ej⟩ : ∃ j, nb S - 31 = j := ⟨_, rfl⟩
    rw [ej]
    have hj := p_pos j
    obtain ⟨q, eq⟩ : ∃ q, S / 2 ^ j = q := ⟨_, rfl⟩
    obtain ⟨f, ef⟩ : ∃ f, S % 2 ^ j = f := ⟨_, rfl⟩
    have hdm := Nat.div_add_mod S (2 ^ j)
    have hml := Nat.mod_lt S hj
    rw [eq, ef] at hdm
    rw [ef] at hml
    rw [eq]
    have e1 : 2 ^ (nb S - 1) = 1073741824 * 2 ^ j := by rw [show (1073741824 : Nat) = 2 ^ 30 from rfl, ← Nat.pow_add, show 30 + j = nb S - 1 from by omega]
    have e2 : 2 ^ nb S = 2147483648 * 2 ^ j := by rw [show (2147483648 : Nat) = 2 ^ 31 from rfl, ← Nat.pow_add, show 31 + j = nb S from by omega]
    rw [e1] at n1
    rw [e2] at n2
    have hq1 : 1073741824 ≤ q := by rw [← eq]; exact (Nat.le_div_iff_mul_le hj).mpr n1
    have hq2 : q < 2147483648 := by rw [← eq]; exact (Nat.div_lt_iff_lt_mul hj).mpr n2
    have es : X + (nb S : Int) - 1 - 30 = X + j := by omega
    rw [es]
    have u1 := cpr_up (a := a) (b := b) (e := e) (rt := rt) (m := q) (g := X + j) (g' := X) (by omega)
    have u2 := cpr_up (a := a) (b := b) (e := e) (rt := rt) (m := q + 1) (g := X + j) (g' := X) (by omega)
    rw [show (X + (j : Int) - X).toNat = j from by omega] at u1 u2
    have eqj : q * 2 ^ j + f = S := by rw [Nat.mul_comm]; exact hdm
    refine ⟨hb, hr, hq1, hq2, ?_, ?_⟩
    · rw [u1]
      by_cases y : f = 0
      · have e3 : q * 2 ^ j = S := by omega
        rw [e3, k3, show decide (31 < nb S ∧ S ≠ S) = false from decide_eq_false (fun w => w.2 rfl), Bool.or_false]
      · rw [show decide (31 < nb S ∧ q * 2 ^ j ≠ S) = true from decide_eq_true ⟨z, by omega⟩, Bool.or_true]
        exact cpr_s hb hr (show q * 2 ^ j < S by omega) hs0
    · rw [u2, Nat.add_mul, Nat.one_mul]
      have h3 := cpr_m (a := a) (b := b) (e := e) (rt := rt) (g := X) (show S + 1 ≤ q * 2 ^ j + 2 ^ j by omega)
      have h4 := cpr_rg (a := a) (b := b) (e := e) (rt := rt) (m := q * 2 ^ j + 2 ^ j) (g := X)
      omega
  · rw [if_neg (by omega)]
    obtain ⟨j, ej⟩ : ∃ j, 31 - nb S = j := ⟨_, rfl⟩
    rw [ej, show decide (31 < nb S ∧ S * 2 ^ j * 2 ^ (nb S - 31) ≠ S) = false from decide_eq_false (fun w => by omega), Bool.or_false]
    have e1 : 2 ^ (nb S - 1) * 2 ^ j = 1073741824 := by rw [show (1073741824 : Nat) = 2 ^ 30 from rfl, ← Nat.pow_add, show nb S - 1 + j = 30 from by omega]
    have e2 : 2 ^ nb S * 2 ^ j = 2147483648 := by rw [show (2147483648 : Nat) = 2 ^ 31 from rfl, ← Nat.pow_add, show nb S + j = 31 from by omega]
    have h1 := Nat.mul_le_mul_right (2 ^ j) n1
    have h2 := Nat.mul_lt_mul_of_pos_right n2 (p_pos j)
    rw [e1] at h1
    rw [e2] at h2
    have es : X + (nb S : Int) - 1 - 30 = X - j := by omega
    rw [es]
    have u1 := cpr_sh (a := a) (b := b) (e := e) (rt := rt) (m := S) (j := j) (g := X)
    refine ⟨hb, hr, h1, h2, by rw [u1]; exact k3, ?_⟩
    cases hmo : mo with
    | true =>
      have := hm hmo
      have j0 : j = 0 := by omega
      rw [j0, Nat.pow_zero, Nat.mul_one, show X - ((0 : Nat) : Int) = X from by omega]
      exact k4
    | false =>
      rw [hmo] at k3
      exact cpr_s2 hb hr (Nat.lt_succ_self _) (by rw [u1, k3]; decide)
/-- the class's rounding of such a value is the reference's -/
theorem rl_eq {S n : Nat} {X : Int} {mo : Bool} (hn : 3 ≤ n ∧ n ≤ 32) (mi : Bool) (h : BS a b e rt S X mo) : rlg n mi S X mo = rdR (cond mi (-1) 1) (CP a b e rt) n := by
  have k := rd_eq hn (BD_ap (BS_bd h))
  unfold rlg rdR
  rw [if_neg (by have := h.2.2.1; omega), ← k]
  cases mi
  · rw [cond_false, cond_false, if_neg (by decide), if_pos (by decide)]
  · rw [cond_true, cond_true, if_neg (by decide), if_neg (by decide)]
end
/-- an exact value v 2^X -/
theorem rl_ex {V S n : Nat} {X e : Int} (hn : 3 ≤ n ∧ n ≤ 32) (mi : Bool) (hS : 0 < S) (h : cpr V 1 e 1 S X = 0) : rlg n mi S X false = rdR (cond mi (-1) 1) (CP V 1 e 1) n :=
  rl_eq hn mi (BS_ex (by decide) (by decide) hS h)
/-- V 2^e is S 2^X -/
theorem cpr_ex {V S : Nat} {e X : Int} {t : Nat} (h : V = S * 2 ^ t) (ht : X = e + t) : cpr V 1 e 1 S X = 0 := by
  rw [cpr_xy (X := 0) (Y := t) (by omega), h, Nat.pow_zero, Nat.mul_one, Nat.one_mul, Nat.pow_one]
  unfold cmpz
  rw [if_neg (by omega), if_pos rfl]
/-- a wide number -/
theorem rw_ex {V v n : Nat} {X e : Int} {t : Nat} (hn : 3 ≤ n ∧ n ≤ 32) (mi : Bool) (hv : 0 < v) (h : V = v * 2 ^ t) (ht : X = e + t) : rwd n mi v X = rdR (cond mi (-1) 1) (CP V 1 e 1) n := by
  unfold rwd
  obtain ⟨k, ek⟩ : ∃ k, nb v - 62 = k := ⟨_, rfl⟩
  rw [ek]
  have hk := p_pos k
  have n1 := nb_lo (x := v) (by omega)
  have hdm := Nat.div_add_mod v (2 ^ k)
  have hml := Nat.mod_lt v hk
  obtain ⟨q, eq⟩ : ∃ q, v / 2 ^ k = q := ⟨_, rfl⟩
  obtain ⟨f, ef⟩ : ∃ f, v % 2 ^ k = f := ⟨_, rfl⟩
  rw [eq, ef] at hdm
  rw [ef] at hml
  rw [eq, ef]
  have c0 := cpr_ex h ht
  have hqk : q * 2 ^ k + f = v := by rw [Nat.mul_comm]; exact hdm
  have hq0 : 0 < q := by
    rw [← eq]
    refine Nat.div_pos (Nat.le_trans (Nat.pow_le_pow_right (by decide) ?_) n1) hk
    omega
  have u1 := cpr_up (a := V) (b := 1) (e := e) (rt := 1) (m := q) (g := X + k) (g' := X) (by omega)
  have u2 := cpr_up (a := V) (b := 1) (e := e) (rt := 1) (m := q + 1) (g := X + k) (g' := X) (by omega)
  rw [show (X + (k : Int) - X).toNat = k from by omega] at u1 u2
  apply rl_eq hn mi
  refine ⟨by decide, by decide, hq0, fun z => ?_, ?_, ?_⟩
  · have hf := of_decide_eq_true z
    have k1 : 1 ≤ k := by
      rcases Nat.eq_zero_or_pos k with y | y
      · rw [y, Nat.pow_zero] at hml; omega
      · exact y
    have e1 : 2 ^ (nb v - 1) = 2 ^ 61 * 2 ^ k := by rw [← Nat.pow_add, show 61 + k = nb v - 1 from by omega]
    rw [e1] at n1
    have : 2 ^ 61 ≤ q := by rw [← eq]; exact (Nat.le_div_iff_mul_le hk).mpr n1
    have := nb_ge this
    omega
  · rw [u1]
    by_cases y : f = 0
    · rw [show q * 2 ^ k = v from by omega, c0, decide_eq_false (by omega)]; rfl
    · rw [decide_eq_true y]
      exact cpr_s (by decide) (by decide) (show q * 2 ^ k < v by omega) (by rw [c0]; decide)
  · rw [u2, Nat.add_mul, Nat.one_mul]
    exact cpr_s2 (by decide) (by decide) (show v < q * 2 ^ k + 2 ^ k by omega) (by rw [c0]; decide)
