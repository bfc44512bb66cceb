/-! Mathematics: exact values round to themselves; whole numbers, turns, the order, decimals -/
/-- the 31 bits of a pattern's parts -/
theorem ld_kp {u n sg : Nat} {ex r : Int} {t j : Nat} (hd : dec u n r t) (h2 : sg * 2 ^ j = 1073741824 + t % 1073741824) (h4 : ex = 4 * r + ((t / 1073741824 : Nat) : Int) - 30 + j) : 0 < sg ∧ (ex + (nb sg : Nat) - 1) / 4 = r ∧ tailOf (ex + (nb sg : Nat) - 1) (kpt sg) = t ∧ lost sg = false := by
  have ht := hd.2.2.1
  have hm : t % 1073741824 < 1073741824 := Nat.mod_lt _ (by decide)
  have hs0 : 0 < sg := by
    rcases Nat.eq_zero_or_pos sg with q | q
    · rw [q, Nat.zero_mul] at h2; omega
    · exact q
  have n1 : nb (sg * 2 ^ j) = 31 := by
    rw [h2]
    exact nb_eq (k := 30) (by omega) (by omega)
  rw [nb_sh hs0] at n1
  have ek : kpt sg = 1073741824 + t % 1073741824 := by
    unfold kpt
    rw [if_neg (by omega), show 31 - nb sg = j from by omega, h2]
  have es : ex + (nb sg : Nat) - 1 = 4 * r + ((t / 1073741824 : Nat) : Int) := by omega
  refine ⟨hs0, by rw [es]; omega, ?_, ?_⟩
  · rw [es, ek]; unfold tailOf; omega
  · unfold lost; exact decide_eq_false (fun y => by omega)
theorem AP_self {u n sg : Nat} {ex : Int} (h : ld u n sg ex) : ∃ (r : Int) (t : Nat), dec u n r t ∧ (ex + (nb sg : Nat) - 1) / 4 = r ∧ tailOf (ex + (nb sg : Nat) - 1) (kpt sg) = t ∧ AP (CP sg 1 ex 1) (ex + (nb sg : Nat) - 1) (kpt sg) false := by
  obtain ⟨r, t, j, h1, h2, h3, h4⟩ := h
  obtain ⟨k1, k2, k3, k4⟩ := ld_kp h1 h2 h4
  have := BD_ap (BS_bd (BS_ex (a := sg) (b := 1) (e := ex) (rt := 1) (S := sg) (X := ex) (by decide) (by decide) k1 (cpr_ex (t := 0) (by rw [Nat.pow_zero, Nat.mul_one]) (by omega))))
  rw [k4] at this
  exact ⟨r, t, h1, k2, k3, this⟩
theorem rd_self {u n sg : Nat} {ex : Int} (hn : 3 ≤ n ∧ n ≤ 32) (hu : 0 < u) (hu2 : u < 2 ^ (n - 1)) (h : ld u n sg ex) : rdS (CP sg 1 ex 1) n = u := by
  obtain ⟨r, t, h1, k2, k3, ha⟩ := AP_self h
  rw [rd_eq hn ha]
  have hb := dec_b (by omega) hu hu2 h1
  unfold rsz
  obtain ⟨s, es⟩ : ∃ s : Int, ex + (nb sg : Nat) - 1 = s := ⟨_, rfl⟩
  rw [es] at k2 k3 ⊢
  by_cases c1 : 4 * ((n : Int) - 2) ≤ s
  · rw [if_pos c1]
    exact (hb.2.2.2.2.1 (by omega)).2.symm
  · rw [if_neg c1, if_neg (by omega), k2, k3, ← h1.2.2.2]
    unfold cut
    rw [Nat.mul_mod_left, Nat.mul_div_cancel _ (p_pos _)]
    have h5 := p_pos (72 - n)
    rw [if_neg (by omega)]
/-- sizes stand as their patterns do -/
theorem uv_cmp {u n u' n' : Nat} (hn : 3 ≤ n ∧ n ≤ 32) (hu : 0 < u) (hu2 : u < 2 ^ (n - 1)) (hn' : 3 ≤ n' ∧ n' ≤ 32) (hu' : 0 < u') (hu2' : u' < 2 ^ (n' - 1)) (hl : ∃ sg ex, ld u n sg ex) (hl' : ∃ sg ex, ld u' n' sg ex) :
    (u * 2 ^ (73 - n) < u' * 2 ^ (73 - n') → uv u n < uv u' n') ∧ (u * 2 ^ (73 - n) = u' * 2 ^ (73 - n') → uv u n = uv u' n') := by
  obtain ⟨sg, ex, hl⟩ := hl
  obtain ⟨sg', ex', hl'⟩ := hl'
  have b1 := ld_b (by omega) hu hu2 (fun y => by omega) hl
  have b2 := ld_b (by omega) hu' hu2' (fun y => by omega) hl'
  have v1 := uv_md (ld_md hl).1 b1.2.2.1 b1.1
  have v2 := uv_md (ld_md hl').1 b2.2.2.1 b2.1
  obtain ⟨r, t, h1, k2, k3, ha⟩ := AP_self hl
  obtain ⟨r', t', j', h1', -⟩ := id hl'
  have hc := ha u' n' r' t' (by omega) (by omega) hu' hu2' h1'
  rw [k2, k3] at hc
  have e1 : CP sg 1 ex 1 u' n' = cmpz (uv u n) (uv u' n') := by
    rw [← CP_a0 v1 b1.2.2.1]
    unfold CP
    rw [← cpr_md (ld_md hl').1, cpr_xy (X := 0) (Y := (ex' + 120).toNat) (by omega), Nat.pow_zero, Nat.mul_one, Nat.one_mul, Nat.pow_one, ← v2]
  rw [e1] at hc
  obtain ⟨d1, d2, d3, d4⟩ := h1
  obtain ⟨d1', d2', d3', d4'⟩ := h1'
  rw [d4, d4']
  constructor
  · intro y
    have := hc.1 ((enc_lex d1 d2 d1' d2' d3 d3').mp y)
    exact cmpz_lt.mp (by rw [this]; decide)
  · intro y
    have := enc_inj d1 d2 d1' d2' d3 d3' y
    exact cmpz_eq.mp (hc.2.2 this.1.symm this.2.symm)
theorem ld_ex {u n : Nat} (hn : 3 ≤ n ∧ n ≤ 33) (hu : 0 < u) (hu2 : u < 2 ^ (n - 1)) : ∃ sg ex, ld u n sg ex := by
  obtain ⟨r, t, hd⟩ := dec_ex hn.1 hn.2 hu hu2
  have odd : ∀ m x : Nat, 0 < x → x ≤ m → ∃ s j, s * 2 ^ j = x ∧ s % 2 = 1 := by
    intro m
    induction m with
    | zero => intro x h1 h2; omega
    | succ m ih =>
      intro x h1 h2
      by_cases q : x % 2 = 1
      · exact ⟨x, 0, by rw [Nat.pow_zero, Nat.mul_one], q⟩
      · obtain ⟨s, j, e1, e2⟩ := ih (x / 2) (by omega) (by omega)
        exact ⟨s, j + 1, by rw [Nat.pow_succ, ← Nat.mul_assoc, e1]; omega, e2⟩
  obtain ⟨s, j, e1, e2⟩ := odd _ (1073741824 + t % 1073741824) (by omega) (Nat.le_refl _)
  exact ⟨s, _, r, t, j, hd, e1, e2, rfl⟩
/-! the order -/
def rk (p n : Nat) : Int := if p < 2 ^ (n - 1) then ((p * 2 ^ (64 - n) : Nat) : Int) else -(((2 ^ n - p) * 2 ^ (64 - n) : Nat) : Int)
section
variable {p1 p2 w1 w2 w s1 s2 : Nat} {x1 x2 : Int}
theorem rk_b (h1 : 3 ≤ w1 ∧ w1 ≤ 32) (hp1 : p1 < 2 ^ w1) : -9223372036854775808 ≤ rk p1 w1 ∧ rk p1 w1 < 9223372036854775808 ∧ (rk p1 w1 = -9223372036854775808 ↔ p1 = 2 ^ (w1 - 1)) := by
  have e2 : 2 ^ w1 = 2 * 2 ^ (w1 - 1) := pw2 (by omega)
  have e63 : 2 ^ (w1 - 1) * 2 ^ (64 - w1) = 9223372036854775808 := by rw [← Nat.pow_add, show w1 - 1 + (64 - w1) = 63 from by omega]
  have hQ := p_pos (64 - w1)
  unfold rk
  obtain ⟨P, eP⟩ : ∃ P, 2 ^ (w1 - 1) = P := ⟨_, rfl⟩
  obtain ⟨Q, eQ⟩ : ∃ Q, 2 ^ (64 - w1) = Q := ⟨_, rfl⟩
  rw [eP] at e2 e63 ⊢
  rw [eQ] at e63 hQ ⊢
  rw [e2] at hp1 ⊢
  by_cases z : p1 < P
  · rw [if_pos z]
    have := Nat.mul_lt_mul_of_pos_right z hQ
    omega
  · rw [if_neg z]
    have h3 : (2 * P - p1) * Q ≤ P * Q := Nat.mul_le_mul_right _ (by omega)
    refine ⟨by omega, by omega, ?_⟩
    constructor
    · intro y
      have : (2 * P - p1) * Q = P * Q := by omega
      have := Nat.mul_right_cancel hQ this
      omega
    · intro y
      rw [show 2 * P - p1 = P from by omega]; omega
theorem e_or (h1 : 3 ≤ w1 ∧ w1 ≤ 32) (hp1 : p1 < 2 ^ w1) (h2 : 3 ≤ w2 ∧ w2 ≤ 32) (hp2 : p2 < 2 ^ w2) :
    cmpI (rk p1 w1) (rk p2 w2) = if p1 = 2 ^ (w1 - 1) ∨ p2 = 2 ^ (w2 - 1) then (if p1 = 2 ^ (w1 - 1) then (if p2 = 2 ^ (w2 - 1) then 0 else -1) else 1) else sgI (0 + 1 * (pvI p1 w1 * (2 ^ 120 : Nat)) + (-1) * (pvI p2 w2 * (2 ^ 120 : Nat))) := by
  have r1 := rk_b h1 hp1
  have r2 := rk_b h2 hp2
  unfold cmpI
  by_cases z1 : p1 = 2 ^ (w1 - 1)
  · rw [if_pos (show p1 = 2 ^ (w1 - 1) ∨ p2 = 2 ^ (w2 - 1) from Or.inl z1), if_pos (show p1 = 2 ^ (w1 - 1) from z1), r1.2.2.mpr z1]
    by_cases z2 : p2 = 2 ^ (w2 - 1)
    · rw [if_pos (show p2 = 2 ^ (w2 - 1) from z2), r2.2.2.mpr z2]; rfl
    · rw [if_neg (show ¬ p2 = 2 ^ (w2 - 1) from z2)]
      have : rk p2 w2 ≠ -9223372036854775808 := fun y => z2 (r2.2.2.mp y)
      rw [if_pos (by omega)]
  · by_cases z2 : p2 = 2 ^ (w2 - 1)
    · rw [if_pos (show p1 = 2 ^ (w1 - 1) ∨ p2 = 2 ^ (w2 - 1) from Or.inr z2), if_neg (show ¬ p1 = 2 ^ (w1 - 1) from z1), r2.2.2.mpr z2]
      have : rk p1 w1 ≠ -9223372036854775808 := fun y => z1 (r1.2.2.mp y)
      rw [if_neg (by omega), if_neg (by omega)]
    · rw [if_neg (show ¬ (p1 = 2 ^ (w1 - 1) ∨ p2 = 2 ^ (w2 - 1)) from fun y => y.elim z1 z2)]
      -- a pattern's rank and its value
      have key : ∀ p n : Nat, 3 ≤ n ∧ n ≤ 32 → p < 2 ^ n → p ≠ 2 ^ (n - 1) → (p = 0 ∧ rk p n = 0 ∧ pvI p n = 0) ∨ (∃ u, 0 < u ∧ u < 2 ^ (n - 1) ∧ 0 < uv u n ∧ 0 < u * 2 ^ (64 - n) ∧ ((rk p n = ((u * 2 ^ (64 - n) : Nat) : Int) ∧ pvI p n = (uv u n : Int)) ∨ (rk p n = -((u * 2 ^ (64 - n) : Nat) : Int) ∧ pvI p n = -(uv u n : Int)))) := by
        intro p n hn hp hp9
        have e2 : 2 ^ n = 2 * 2 ^ (n - 1) := pw2 (by omega)
        have pos : ∀ u, 0 < u → u < 2 ^ (n - 1) → 0 < uv u n ∧ 0 < u * 2 ^ (64 - n) := by
          intro u hu hu2
          obtain ⟨sg, ex, hl⟩ := ld_ex (n := n) (by omega) hu hu2
          have b1 := ld_b (by omega) hu hu2 (fun y => by omega) hl
          have v1 := uv_md (ld_md hl).1 b1.2.2.1 b1.1
          exact ⟨by rw [v1]; exact Nat.mul_pos b1.1 (p_pos _), Nat.mul_pos hu (p_pos _)⟩
        unfold rk pvI
        by_cases q : p = 0
        · left
          rw [if_pos q, if_pos (by rw [q]; exact p_pos _), q, Nat.zero_mul]
          exact ⟨rfl, rfl, rfl⟩
        · right
          rw [if_neg q]
          by_cases q2 : p < 2 ^ (n - 1)
          · rw [if_pos q2, if_pos q2]
            exact ⟨p, by omega, q2, (pos p (by omega) q2).1, (pos p (by omega) q2).2, Or.inl ⟨rfl, rfl⟩⟩
          · rw [if_neg q2, if_neg q2]
            exact ⟨2 ^ n - p, by omega, by omega, (pos _ (by omega) (by omega)).1, (pos _ (by omega) (by omega)).2, Or.inr ⟨rfl, rfl⟩⟩
      -- two sizes
      have two : ∀ u n u' n' : Nat, 3 ≤ n ∧ n ≤ 32 → 0 < u → u < 2 ^ (n - 1) → 3 ≤ n' ∧ n' ≤ 32 → 0 < u' → u' < 2 ^ (n' - 1) → (u * 2 ^ (64 - n) < u' * 2 ^ (64 - n') → uv u n < uv u' n') ∧ (u * 2 ^ (64 - n) = u' * 2 ^ (64 - n') → uv u n = uv u' n') := by
        intro u n u' n' hn hu hu2 hn' hu' hu2'
        have e1 : u * 2 ^ (73 - n) = u * 2 ^ (64 - n) * 512 := by rw [show 73 - n = 64 - n + 9 from by omega, Nat.pow_add, ← Nat.mul_assoc]
        have e2 : u' * 2 ^ (73 - n') = u' * 2 ^ (64 - n') * 512 := by rw [show 73 - n' = 64 - n' + 9 from by omega, Nat.pow_add, ← Nat.mul_assoc]
        have := uv_cmp hn hu hu2 hn' hu' hu2' (ld_ex (by omega) hu hu2) (ld_ex (by omega) hu' hu2')
        rw [e1, e2] at this
        exact ⟨fun y => this.1 (by omega), fun y => this.2 (by omega)⟩
      have k1 := key p1 w1 h1 hp1 z1
      have k2 := key p2 w2 h2 hp2 z2
      have ord : (rk p1 w1 < rk p2 w2 → pvI p1 w1 < pvI p2 w2) ∧ (rk p1 w1 = rk p2 w2 → pvI p1 w1 = pvI p2 w2) ∧ (rk p2 w2 < rk p1 w1 → pvI p2 w2 < pvI p1 w1) := by
        rcases k1 with ⟨-, a1, a2⟩ | ⟨u, u1, u2, u3, u4, u5⟩
        · rcases k2 with ⟨-, a1', a2'⟩ | ⟨u', u1', u2', u3', u4', u5'⟩
          · omega
          · omega
        · rcases k2 with ⟨-, a1', a2'⟩ | ⟨u', u1', u2', u3', u4', u5'⟩
          · omega
          · have t1 := two u w1 u' w2 h1 u1 u2 h2 u1' u2'
            have t2 := two u' w2 u w1 h2 u1' u2' h1 u1 u2
            generalize u * 2 ^ (64 - w1) = A at *
            generalize u' * 2 ^ (64 - w2) = B at *
            generalize uv u w1 = C at *
            generalize uv u' w2 = D at *
            omega
      obtain ⟨P, eP⟩ : ∃ P : Nat, 2 ^ 120 = P := ⟨_, rfl⟩
      have hP : 0 < P := by rw [← eP]; exact p_pos 120
      rw [eP, Int.zero_add, Int.one_mul, Int.neg_mul, Int.one_mul, ← Int.sub_eq_add_neg, ← Int.sub_mul]
      have hs : sgI ((pvI p1 w1 - pvI p2 w2) * (P : Int)) = sgI (pvI p1 w1 - pvI p2 w2) := by
        unfold sgI
        have hP2 : (0 : Int) < P := by omega
        have i1 : (pvI p1 w1 - pvI p2 w2) * (P : Int) < 0 ↔ pvI p1 w1 - pvI p2 w2 < 0 := by
          constructor
          · intro y
            rcases Int.lt_or_le (pvI p1 w1 - pvI p2 w2) 0 with q | q
            · exact q
            · have := Int.mul_nonneg q (Int.le_of_lt hP2); omega
          · intro y; exact Int.mul_neg_of_neg_of_pos y hP2
        have i2 : (pvI p1 w1 - pvI p2 w2) * (P : Int) = 0 ↔ pvI p1 w1 - pvI p2 w2 = 0 := by
          constructor
          · intro y
            rcases Int.mul_eq_zero.mp y with q | q
            · exact q
            · omega
          · intro y; rw [y, Int.zero_mul]
        simp only [i1, i2]
      rw [hs]
      unfold sgI
      rcases Int.lt_trichotomy (rk p1 w1) (rk p2 w2) with y | y | y
      · have := ord.1 y
        rw [if_pos y, if_pos (by omega)]
      · have := ord.2.1 y
        rw [if_neg (by omega), if_pos y, if_neg (by omega), if_pos (by omega)]
      · have := ord.2.2 y
        rw [if_neg (by omega), if_neg (by omega), if_neg (by omega), if_neg (by omega)]
end
