/-! Mathematics: whole numbers, turns, decimals -/
section
variable {p1 w1 w s1 : Nat} {x1 : Int}
theorem wl_pd {how : Nat} (h1 : 3 ≤ w1 ∧ w1 ≤ 32) (hp1 : p1 < 2 ^ w1) (z1 : p1 ≠ 2 ^ (w1 - 1)) (d1 : pd p1 w1 s1 x1) : mwv how (pvI p1 w1) = wlv how (sgI (pvI p1 w1)) s1 x1 := by
  have v1 := pd_v h1 hp1 z1 d1
  have b1 := pd_b h1 hp1 d1
  unfold mwv
  rw [v1.1, wlv_sc b1.2.1]
theorem wl_3 {s : Int} {sg : Nat} {ex : Int} : wlv 3 s sg ex = nsz sg ex := by
  unfold wlv nsz
  by_cases z : 0 ≤ ex
  · rw [if_pos z, if_pos z]
  · rw [if_neg z, if_neg z]
    unfold rne wup
    rw [if_pos rfl]
    generalize 2 ^ (-ex).toNat = T
    by_cases y : T < 2 * (sg % T) ∨ (T = 2 * (sg % T) ∧ sg / T % 2 = 1)
    · rw [if_pos y]
      have : (decide (T < 2 * (sg % T)) || (decide (2 * (sg % T) = T) && decide (sg / T % 2 = 1))) = true := by
        rcases y with y | y
        · rw [decide_eq_true y]; rfl
        · rw [decide_eq_true y.1.symm, decide_eq_true y.2, Bool.and_true, Bool.or_true]
      rw [this]; rfl
    · rw [if_neg y]
      have : (decide (T < 2 * (sg % T)) || (decide (2 * (sg % T) = T) && decide (sg / T % 2 = 1))) = false := by
        rw [Bool.or_eq_false_iff, Bool.and_eq_false_iff]
        refine ⟨decide_eq_false (fun z => y (Or.inl z)), ?_⟩
        by_cases q : 2 * (sg % T) = T
        · exact Or.inr (decide_eq_false (fun z => y (Or.inr ⟨q.symm, z⟩)))
        · exact Or.inl (decide_eq_false q)
      rw [this]; rfl
/-- whether a whole number passes a long -/
theorem e_wh (h1 : 3 ≤ w1 ∧ w1 ≤ 32) (hp1 : p1 < 2 ^ w1) (d1 : pd p1 w1 s1 x1) : (decide (p1 = 2 ^ (w1 - 1)) || decide (s1 ≠ 0 ∧ 62 < x1 + (nb s1 : Nat) - 1 ∧ ¬ (decide (2 ^ (w1 - 1) < p1) = true ∧ s1 = 1 ∧ x1 = 63))) = mwB p1 w1 ∧ (p1 ≠ 2 ^ (w1 - 1) → sgnd (decide (2 ^ (w1 - 1) < p1)) (nsz s1 x1) = sgI (pvI p1 w1) * (mwv 3 (pvI p1 w1) : Nat)) := by
  unfold mwB
  by_cases z1 : p1 = 2 ^ (w1 - 1)
  · rw [decide_eq_true z1, Bool.true_or, Bool.true_or]
    exact ⟨rfl, fun y => absurd z1 y⟩
  · have v1 := pd_v h1 hp1 z1 d1
    have b1 := pd_b h1 hp1 d1
    rw [decide_eq_false z1, Bool.false_or, Bool.false_or, mi_b v1.2.1, wl_pd h1 hp1 z1 d1, wl_3]
    constructor
    · have n4 : nb s1 ≤ 30 := nb_le (k := 30) b1.1
      have iff : (s1 ≠ 0 ∧ 62 < x1 + (nb s1 : Nat) - 1 ∧ ¬ (decide (pvI p1 w1 < 0) = true ∧ s1 = 1 ∧ x1 = 63)) ↔ (9223372036854775808 ≤ nsz s1 x1 ∧ ¬ (pvI p1 w1 < 0 ∧ nsz s1 x1 = 9223372036854775808)) := by
        by_cases s0 : s1 = 0
        · have e0 : nsz s1 x1 = 0 := by
            rw [s0]; unfold nsz rne
            split
            · exact Nat.zero_mul _
            · rw [Nat.zero_mod, Nat.zero_div]
              have := p_pos (-x1).toNat
              rw [if_neg (by omega)]
          rw [e0]
          constructor
          · intro y; exact absurd s0 y.1
          · intro y; omega
        · by_cases xp : 0 ≤ x1
          · have e0 : nsz s1 x1 = s1 * 2 ^ x1.toNat := by unfold nsz; rw [if_pos xp]
            have hW : 0 < s1 * 2 ^ x1.toNat := Nat.mul_pos (by omega) (p_pos _)
            have nW := nb_sh (v := s1) (t := x1.toNat) (by omega)
            have n64 := (nb_64 (W := s1 * 2 ^ x1.toNat)).2
            rw [e0]
            have i1 : 62 < x1 + (nb s1 : Nat) - 1 ↔ 2 ^ 63 ≤ s1 * 2 ^ x1.toNat := by rw [← n64, nW]; omega
            have i2 : (s1 = 1 ∧ x1 = 63) ↔ s1 * 2 ^ x1.toNat = 2 ^ 63 := by
              constructor
              · intro y; rw [y.1, y.2]; rfl
              · intro y
                have odd : s1 % 2 = 1 := by
                  unfold pd at d1
                  rw [if_neg (fun q => q.elim (fun q => s0 (v1.2.2.1.mpr (v1.2.2.2.mpr q))) z1)] at d1
                  exact (ld_md d1).2
                have h3 := odd_pw (m := 1) (e := 63) odd (by rw [y, Nat.one_mul])
                have h4 : 2 ^ x1.toNat ≤ s1 * 2 ^ x1.toNat := Nat.le_mul_of_pos_left _ (by omega)
                rw [y] at h4
                have h5 := pw_le h4
                have h6 : x1.toNat = 63 := by omega
                rw [h6] at y
                exact ⟨Nat.mul_right_cancel (p_pos 63) (by rw [y, Nat.one_mul]), by omega⟩
            rw [show (decide (pvI p1 w1 < 0) = true) = (pvI p1 w1 < 0) from by simp]
            constructor
            · intro y
              exact ⟨i1.mp y.2.1, fun q => y.2.2 ⟨q.1, i2.mpr q.2⟩⟩
            · intro y
              exact ⟨s0, i1.mpr y.1, fun q => y.2 ⟨q.1, i2.mp q.2⟩⟩
          · have e0 : nsz s1 x1 ≤ s1 + 1 := by
              unfold nsz; rw [if_neg xp]
              unfold rne
              have := Nat.div_le_self s1 (2 ^ (-x1).toNat)
              split <;> omega
            constructor
            · intro y; omega
            · intro y; omega
      simp only [iff]
    · intro _
      by_cases y : pvI p1 w1 = 0
      · have s0 := v1.2.2.1.mpr y
        have e0 : nsz s1 x1 = 0 := by
          rw [s0]; unfold nsz rne
          split
          · exact Nat.zero_mul _
          · rw [Nat.zero_mod, Nat.zero_div]
            have := p_pos (-x1).toNat
            rw [if_neg (by omega)]
        rw [e0, y]; rfl
      · rw [sg_c y]
        unfold sgnd
        cases decide (pvI p1 w1 < 0)
        · rw [cond_false, cond_false, Int.one_mul]
        · rw [cond_true, cond_true, Int.neg_mul, Int.one_mul]
/-! turns -/
theorem tn_2 (h1 : 3 ≤ w1 ∧ w1 ≤ 32) (hp1 : p1 < 2 ^ w1) (d1 : pd p1 w1 s1 x1) : mtn w1 p1 2 = if p1 = 2 ^ (w1 - 1) ∨ s1 = 0 then p1 else rlg w1 (decide (2 ^ (w1 - 1) < p1)) 1 0 false := by
  unfold mtn
  rw [if_neg (by decide), if_neg (by decide)]
  by_cases z1 : p1 = 2 ^ (w1 - 1)
  · rw [if_pos z1, if_pos (Or.inl z1)]
  · have v1 := pd_v h1 hp1 z1 d1
    rw [if_neg z1, if_neg (by decide), if_neg (by decide), if_pos rfl]
    by_cases s0 : s1 = 0
    · have y := v1.2.2.1.mp s0
      rw [if_pos (Or.inr s0), y, v1.2.2.2.mp y]; exact rd_0
    · have y : pvI p1 w1 ≠ 0 := fun q => s0 (v1.2.2.1.mpr q)
      rw [if_neg (fun q => q.elim z1 s0), mi_b v1.2.1, sg_c y]
      exact (rl_ex h1 _ (by decide) (cpr_ex (t := 0) (by decide) (by omega))).symm
theorem tn_w {how : Nat} (hh : 3 ≤ how ∧ how ≤ 5) (h1 : 3 ≤ w1 ∧ w1 ≤ 32) (hp1 : p1 < 2 ^ w1) (d1 : pd p1 w1 s1 x1) (hx : 0 ≤ x1) : mtn w1 p1 how = p1 := by
  unfold mtn
  rw [if_neg (by omega), if_neg (by omega)]
  by_cases z1 : p1 = 2 ^ (w1 - 1)
  · rw [if_pos z1]
  · have v1 := pd_v h1 hp1 z1 d1
    rw [if_neg z1, if_neg (by omega), if_neg (by omega), if_neg (by omega), wl_pd h1 hp1 z1 d1]
    have e0 : wlv how (sgI (pvI p1 w1)) s1 x1 = s1 * 2 ^ x1.toNat := by unfold wlv; rw [if_pos hx]
    rw [e0]
    by_cases s0 : s1 = 0
    · have y := v1.2.2.1.mp s0
      rw [s0, Nat.zero_mul, if_pos rfl, rd_0, v1.2.2.2.mp y]
    · have y : pvI p1 w1 ≠ 0 := fun q => s0 (v1.2.2.1.mpr q)
      have hp0 : p1 ≠ 0 := fun q => y (v1.2.2.2.mpr q)
      have hW : 0 < s1 * 2 ^ x1.toNat := Nat.mul_pos (by omega) (p_pos _)
      rw [if_neg (by omega)]
      have hb := pm_b h1 hp1 hp0 z1
      unfold pd at d1
      rw [if_neg (fun q => q.elim hp0 z1)] at d1
      have hc : CP (s1 * 2 ^ x1.toNat) 1 0 1 = CP s1 1 x1 1 := by
        funext u v
        unfold CP
        obtain ⟨s, es⟩ : ∃ s : Int, 0 - pE u v * ((1 : Nat) : Int) = s := ⟨_, rfl⟩
        rw [cpr_xy (e := 0) (X := s.toNat) (Y := (-s).toNat) (by omega), cpr_xy (e := x1) (X := s.toNat + x1.toNat) (Y := (-s).toNat) (by omega), Nat.pow_add, Nat.mul_comm (2 ^ s.toNat), ← Nat.mul_assoc]
      have hr := rd_self h1 hb.1 hb.2 d1
      rw [hc]
      have e2 : 2 ^ w1 = 2 * 2 ^ (w1 - 1) := pw2 (by omega)
      unfold rdR
      rw [hr]
      unfold pmag
      rcases sgI_c (pvI p1 w1) with ⟨a, b⟩ | ⟨a, b⟩ | ⟨a, b⟩
      · have := v1.2.1.mp a
        rw [b, if_neg (by decide), if_neg (by decide), if_pos this]; omega
      · exact absurd a y
      · have : ¬ 2 ^ (w1 - 1) < p1 := fun q => by have := v1.2.1.mpr q; omega
        rw [b, if_neg (by decide), if_pos (by decide), if_neg this]
theorem tn_f {how : Nat} (hh : 3 ≤ how ∧ how ≤ 5) (h1 : 3 ≤ w1 ∧ w1 ≤ 32) (hp1 : p1 < 2 ^ w1) (d1 : pd p1 w1 s1 x1) (hx : x1 < 0) : mtn w1 p1 how = rlg w1 (decide (2 ^ (w1 - 1) < p1)) (if how = 3 then rne s1 (-x1).toNat else s1 / 2 ^ (-x1).toNat + cond (decide (how = 4) == decide (2 ^ (w1 - 1) < p1)) 1 0) 0 false := by
  have z1 : p1 ≠ 2 ^ (w1 - 1) := fun y => by
    unfold pd at d1
    rw [if_pos (Or.inr y)] at d1
    omega
  have hp0 : p1 ≠ 0 := fun y => by
    unfold pd at d1
    rw [if_pos (Or.inl y)] at d1
    omega
  have v1 := pd_v h1 hp1 z1 d1
  have y : pvI p1 w1 ≠ 0 := fun q => hp0 (v1.2.2.2.mp q)
  unfold mtn
  rw [if_neg (by omega), if_neg (by omega), if_neg z1, if_neg (by omega), if_neg (by omega), if_neg (by omega), wl_pd h1 hp1 z1 d1]
  have odd : s1 % 2 = 1 := by
    unfold pd at d1
    rw [if_neg (fun q => q.elim hp0 z1)] at d1
    exact (ld_md d1).2
  have eS : wlv how (sgI (pvI p1 w1)) s1 x1 = (if how = 3 then rne s1 (-x1).toNat else s1 / 2 ^ (-x1).toNat + cond (decide (how = 4) == decide (2 ^ (w1 - 1) < p1)) 1 0) := by
    by_cases h3 : how = 3
    · rw [if_pos h3, h3, wl_3]; unfold nsz; rw [if_neg (by omega)]
    · rw [if_neg h3, mi_b v1.2.1]
      unfold wlv
      rw [if_neg (by omega)]
      congr 1
      unfold wup
      rw [if_neg h3]
      have hne : s1 % 2 ^ (-x1).toNat ≠ 0 := fun q => by
        have e1 : 2 ^ (-x1).toNat = 2 * 2 ^ ((-x1).toNat - 1) := pw2 (by omega)
        have h5 := Nat.div_add_mod s1 (2 ^ (-x1).toNat)
        rw [q, Nat.add_zero, e1, Nat.mul_assoc] at h5
        omega
      rw [decide_eq_true hne, Bool.true_and]
      have hsg : decide (0 < sgI (pvI p1 w1)) = !decide (pvI p1 w1 < 0) := by
        rcases sgI_c (pvI p1 w1) with ⟨a, b⟩ | ⟨a, b⟩ | ⟨a, b⟩
        · rw [b, decide_eq_true a]; rfl
        · exact absurd a y
        · rw [b, decide_eq_false (by omega : ¬ pvI p1 w1 < 0)]; rfl
      rw [hsg]
      by_cases h4 : how = 4
      · rw [decide_eq_true h4, decide_eq_false (by omega : ¬ how = 5)]
        cases decide (pvI p1 w1 < 0) <;> rfl
      · rw [decide_eq_false h4, decide_eq_true (by omega : how = 5)]
        cases decide (pvI p1 w1 < 0) <;> rfl
  rw [eS]
  generalize (if how = 3 then rne s1 (-x1).toNat else s1 / 2 ^ (-x1).toNat + cond (decide (how = 4) == decide (2 ^ (w1 - 1) < p1)) 1 0) = W
  by_cases z : W = 0
  · rw [if_pos z, z, rl_0]; exact rd_0
  · rw [if_neg z, mi_b v1.2.1, sg_c y]
    exact (rl_ex h1 _ (by omega) (cpr_ex (t := 0) (by rw [Nat.pow_zero, Nat.mul_one]) (by omega))).symm
end
/-! decimals -/
theorem CP_1 {a b n : Nat} (hn : 3 ≤ n ∧ n ≤ 32) : CP a b 0 1 1 n = cmpz (a * 2 ^ (4 * (n - 2))) b ∧ CP a b 0 1 (2 ^ (n - 1) - 1) n = cmpz a (b * 2 ^ (4 * (n - 2))) := by
  have d1 := dec_R (dec_one (n := n) (by omega))
  have d2 := dec_R (dec_max (n := n) (by omega))
  unfold CP pM pE
  rw [d1, d2]
  constructor
  · have := cpr_sh (a := a) (b := b) (e := 0) (rt := 1) (m := 1) (j := 30) (g := -(4 * ((n : Int) - 2)))
    show cpr a b 0 1 (1073741824 + 0 % 1073741824) (4 * -((n : Int) - 2) + ((0 / 1073741824 : Nat) : Int) - 30) = _
    rw [show 1073741824 + 0 % 1073741824 = 1 * 2 ^ 30 from rfl, show 4 * -((n : Int) - 2) + ((0 / 1073741824 : Nat) : Int) - 30 = -(4 * ((n : Int) - 2)) - ((30 : Nat) : Int) from by omega, this, cpr_xy (X := 4 * (n - 2)) (Y := 0) (by omega), Nat.one_pow, Nat.mul_one, Nat.mul_one]
  · have := cpr_sh (a := a) (b := b) (e := 0) (rt := 1) (m := 1) (j := 30) (g := 4 * ((n : Int) - 2))
    show cpr a b 0 1 (1073741824 + 0 % 1073741824) (4 * ((n : Int) - 2) + ((0 / 1073741824 : Nat) : Int) - 30) = _
    rw [show 1073741824 + 0 % 1073741824 = 1 * 2 ^ 30 from rfl, show 4 * ((n : Int) - 2) + ((0 / 1073741824 : Nat) : Int) - 30 = 4 * ((n : Int) - 2) - ((30 : Nat) : Int) from by omega, this, cpr_xy (X := 0) (Y := 4 * (n - 2)) (by omega), Nat.one_pow, Nat.mul_one, Nat.mul_one]
theorem rd_hi {a b n : Nat} (hn : 3 ≤ n ∧ n ≤ 32) (hb : 0 < b) (h : b * 2 ^ 120 ≤ a) : rdS (CP a b 0 1) n = 2 ^ (n - 1) - 1 := by
  have h1 := CP_1 (a := a) (b := b) hn
  have e1 : 2 ^ (4 * (n - 2)) ≤ 2 ^ 120 := Nat.pow_le_pow_right (by decide) (by omega)
  have e2 : b * 2 ^ (4 * (n - 2)) ≤ b * 2 ^ 120 := Nat.mul_le_mul_left _ e1
  have e3 : b * 1 ≤ b * 2 ^ 119 := Nat.mul_le_mul_left _ (p_pos 119)
  have e4 : b * 2 ^ 120 = 2 * (b * 2 ^ 119) := by rw [pw2 (a := 119) (b := 120) rfl, Nat.mul_left_comm]
  have e5 : a * 1 ≤ a * 2 ^ (4 * (n - 2)) := Nat.mul_le_mul_left _ (p_pos _)
  have c1 : CP a b 0 1 1 n = 1 := by
    rw [h1.1]
    have a1 := cmpz_lt (v := a * 2 ^ (4 * (n - 2))) (w := b)
    have a2 := cmpz_eq (v := a * 2 ^ (4 * (n - 2))) (w := b)
    have a3 := cmpz_r (a * 2 ^ (4 * (n - 2))) b
    omega
  have c2 : 0 ≤ CP a b 0 1 (2 ^ (n - 1) - 1) n := by
    rw [h1.2]
    have a1 := cmpz_lt (v := a) (w := b * 2 ^ (4 * (n - 2)))
    omega
  unfold rdS
  rw [if_neg (by omega), if_pos c2]
theorem rd_lo {a b n : Nat} (hn : 3 ≤ n ∧ n ≤ 32) (h : a * 2 ^ 120 ≤ b) : rdS (CP a b 0 1) n = 1 := by
  have h1 := CP_1 (a := a) (b := b) hn
  have e1 : 2 ^ (4 * (n - 2)) ≤ 2 ^ 120 := Nat.pow_le_pow_right (by decide) (by omega)
  have e2 : a * 2 ^ (4 * (n - 2)) ≤ a * 2 ^ 120 := Nat.mul_le_mul_left _ e1
  have c1 : CP a b 0 1 1 n ≤ 0 := by
    rw [h1.1]
    have a1 := cmpz_lt (v := a * 2 ^ (4 * (n - 2))) (w := b)
    have a2 := cmpz_eq (v := a * 2 ^ (4 * (n - 2))) (w := b)
    omega
  unfold rdS
  rw [if_pos c1]
theorem e_dc {n D : Nat} {tens : Int} (mi : Bool) (hn : 3 ≤ n ∧ n ≤ 32) (hD : D < 10 ^ 60) : dcA n mi D tens = rdR (if D = 0 then 0 else cond mi (-1) 1) (CP (D * 10 ^ tens.toNat) (10 ^ (-tens).toNat) 0 1) n := by
  have base : ∀ t : Int, D ≠ 0 → (if 0 ≤ t then rwd n mi (D * 10 ^ t.toNat) 0 else dvA n mi (D * 10 ^ 0) (1 * 10 ^ (-t).toNat) 0) = rdR (cond mi (-1) 1) (CP (D * 10 ^ t.toNat) (10 ^ (-t).toNat) 0 1) n := by
    intro t hD0
    by_cases z : 0 ≤ t
    · rw [if_pos z, show (-t).toNat = 0 from by omega, Nat.pow_zero]
      exact rw_ex (t := 0) hn _ (Nat.mul_pos (by omega) (Nat.pow_pos (by decide))) (by rw [Nat.pow_zero, Nat.mul_one]) (by omega)
    · rw [if_neg z, show t.toNat = 0 from by omega, Nat.pow_zero, Nat.mul_one, Nat.one_mul]
      exact dv_eq hn _ (by omega) (Nat.pow_pos (by decide))
  unfold dcA
  by_cases D0 : D = 0
  · rw [if_pos D0, rd_0, D0]
    split
    · rw [Nat.zero_mul]; unfold rwd; rw [Nat.zero_div, rl_0]
    · rw [Nat.zero_mul]; unfold dvA; rw [if_pos rfl]
  · rw [if_neg D0, base (clm tens) D0]
    have hD1 : 1 ≤ D := by omega
    unfold rdR
    have fin : rdS (CP (D * 10 ^ (clm tens).toNat) (10 ^ (-clm tens).toNat) 0 1) n = rdS (CP (D * 10 ^ tens.toNat) (10 ^ (-tens).toNat) 0 1) n := by
      rcases Int.lt_or_le 40 tens with z | z
      · have e1 : clm tens = 40 := by unfold clm; omega
        have hi : ∀ t : Nat, 40 ≤ t → 10 ^ 0 * 2 ^ 120 ≤ D * 10 ^ t := fun t ht => by
          have h1 : (10 : Nat) ^ 40 ≤ 10 ^ t := Nat.pow_le_pow_right (by decide) ht
          have h2 : 1 * 10 ^ 40 ≤ D * 10 ^ t := Nat.mul_le_mul hD1 h1
          have h3 : (2 : Nat) ^ 120 ≤ 10 ^ 40 := by decide
          omega
        rw [e1, show (40 : Int).toNat = 40 from rfl, show (-40 : Int).toNat = 0 from rfl, show (-tens).toNat = 0 from by omega, rd_hi hn (by decide) (hi 40 (by decide)), rd_hi hn (by decide) (hi _ (by omega))]
      · rcases Int.lt_or_le tens (-100) with y | y
        · have e1 : clm tens = -100 := by unfold clm; omega
          have lo : ∀ t : Nat, 100 ≤ t → D * 10 ^ 0 * 2 ^ 120 ≤ 10 ^ t := fun t ht => by
            have h1 : (10 : Nat) ^ 100 ≤ 10 ^ t := Nat.pow_le_pow_right (by decide) ht
            have h3 : (10 : Nat) ^ 60 * 2 ^ 120 ≤ 10 ^ 100 := by decide
            have h4 : D * 2 ^ 120 ≤ 10 ^ 60 * 2 ^ 120 := Nat.mul_le_mul_right _ (Nat.le_of_lt hD)
            rw [Nat.pow_zero, Nat.mul_one]
            exact Nat.le_trans h4 (Nat.le_trans h3 h1)
          rw [e1, show (-100 : Int).toNat = 0 from rfl, show (- -100 : Int).toNat = 100 from rfl, show tens.toNat = 0 from by omega, rd_lo hn (lo 100 (by decide)), rd_lo hn (lo _ (by omega))]
        · have e1 : clm tens = tens := by unfold clm; omega
          rw [e1]
    rw [fin]
