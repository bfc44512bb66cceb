/-! Mathematics: quotients, roots, powers, decimals -/
section
variable {a b : Nat} {e : Int} {rt F B : Nat} {X : Int}
theorem cmpz_c {x y : Nat} (h : y ≤ x) : cmpz x y = cond (decide (y < x)) 1 0 := by
  unfold cmpz
  by_cases z : y < x
  · rw [if_neg (by omega), if_neg (by omega), decide_eq_true z]; rfl
  · rw [if_neg (by omega), if_pos (by omega), decide_eq_false z]; rfl
/-- what the seeker finds bounds the value -/
theorem sk_bs (hb : 0 < b) (hr : 1 ≤ rt) (hc : ∀ m, cpr a b e rt m X = cmpz B (F * m ^ rt)) (h1 : F * (2 ^ 30) ^ rt ≤ B) (h2 : B < F * (2 ^ 32) ^ rt) : BS a b e rt (skf F B rt 32 0) X (decide (skf F B rt 32 0 = 0 ∨ F * (skf F B rt 32 0) ^ rt < B)) := by
  obtain ⟨k1, k2, -, k4⟩ := skf_spec (F := F) (B := B) (k := rt) 32 0 (by rw [Nat.zero_pow (by omega), Nat.mul_zero]; exact Nat.zero_le _) (by rw [Nat.zero_add]; exact h2)
  obtain ⟨S, eS⟩ : ∃ S, skf F B rt 32 0 = S := ⟨_, rfl⟩
  rw [eS] at k1 k2 k4 ⊢
  have hS : 2 ^ 30 ≤ S := by
    rcases Nat.lt_or_ge S (2 ^ 30) with q | q
    · have : F * (S + 1) ^ rt ≤ F * (2 ^ 30) ^ rt := Nat.mul_le_mul_left _ (Nat.pow_le_pow_left q rt)
      omega
    · exact q
  refine ⟨hb, hr, by omega, fun _ => nb_ge hS, ?_, ?_⟩
  · rw [hc, cmpz_c k1]
    have : (S = 0 ∨ F * S ^ rt < B) ↔ F * S ^ rt < B := ⟨fun z => z.elim (fun y => by omega) id, Or.inr⟩
    simp only [this]
  · rw [hc]
    have := cmpz_lt (v := B) (w := F * (S + 1) ^ rt)
    have := cmpz_r B (F * (S + 1) ^ rt)
    omega
end
theorem nb_sh {v t : Nat} (h : 0 < v) : nb (v * 2 ^ t) = nb v + t := by
  have := nb_up (x := v) (y := 0) (s := t) (by omega) (p_pos t)
  rw [Nat.add_zero] at this
  exact this
theorem dv_eq {n v1 v2 : Nat} {X : Int} (hn : 3 ≤ n ∧ n ≤ 32) (mi : Bool) (h1 : 0 < v1) (h2 : 0 < v2) : dvA n mi v1 v2 X = rdR (cond mi (-1) 1) (CP v1 v2 X 1) n := by
  unfold dvA
  rw [if_neg (by omega)]
  apply rl_eq hn mi
  unfold dS
  have n1 := nb_sh (v := v1) (t := (lft v1 v2).toNat) h1
  have n2 := nb_sh (v := v2) (t := (-lft v1 v2).toNat) h2
  have eL : lft v1 v2 = 31 - (nb v1 : Nat) + (nb v2 : Nat) := rfl
  have eB : dB v1 v2 = v1 * 2 ^ (lft v1 v2).toNat := rfl
  have eF : dF v1 v2 = v2 * 2 ^ (-lft v1 v2).toNat := rfl
  rw [← eB] at n1
  rw [← eF] at n2
  have hB0 : 0 < dB v1 v2 := by rw [eB]; exact Nat.mul_pos h1 (p_pos _)
  have hF0 : 0 < dF v1 v2 := by rw [eF]; exact Nat.mul_pos h2 (p_pos _)
  have b1 := nb_lo (x := dB v1 v2) (by omega)
  have b2 := nb_hi (dB v1 v2)
  have f1 := nb_lo (x := dF v1 v2) (by omega)
  have f2 := nb_hi (dF v1 v2)
  have hnn : nb (dB v1 v2) = nb (dF v1 v2) + 31 := by omega
  have hnp := nb_pos (x := dF v1 v2) (by omega)
  refine sk_bs h2 (by decide) (fun m => ?_) ?_ ?_
  · rw [cpr_xy (X := (lft v1 v2).toNat) (Y := (-lft v1 v2).toNat) (by omega), ← eB, eF, Nat.mul_right_comm]
  · rw [Nat.pow_one]
    have e1 : 2 ^ (nb (dB v1 v2) - 1) = 2 ^ nb (dF v1 v2) * 2 ^ 30 := by rw [← Nat.pow_add, show nb (dF v1 v2) + 30 = nb (dB v1 v2) - 1 from by omega]
    have := Nat.mul_lt_mul_of_pos_right f2 (p_pos 30)
    omega
  · rw [Nat.pow_one]
    have e1 : 2 ^ nb (dB v1 v2) = 2 ^ (nb (dF v1 v2) - 1) * 2 ^ 32 := by rw [← Nat.pow_add, show nb (dF v1 v2) - 1 + 32 = nb (dB v1 v2) from by omega]
    have := Nat.mul_le_mul_right (2 ^ 32) f1
    omega
section
variable {p1 p2 w1 w2 w s1 s2 : Nat} {x1 x2 : Int}
theorem x_c {a b : Int} (ha : a ≠ 0) (hb : b ≠ 0) : sgI a * sgI b = cond (decide (a < 0) ^^ decide (b < 0)) (-1) 1 := by
  rw [sg_c ha, sg_c hb]
  cases decide (a < 0) <;> cases decide (b < 0) <;> rfl
theorem e_ov (hw : 3 ≤ w ∧ w ≤ 32) (h1 : 3 ≤ w1 ∧ w1 ≤ 32) (hp1 : p1 < 2 ^ w1) (d1 : pd p1 w1 s1 x1) (h2 : 3 ≤ w2 ∧ w2 ≤ 32) (hp2 : p2 < 2 ^ w2) (d2 : pd p2 w2 s2 x2) :
    quoA w (decide (p1 = 2 ^ (w1 - 1))) (decide (2 ^ (w1 - 1) < p1)) s1 x1 (decide (p2 = 2 ^ (w2 - 1))) (decide (2 ^ (w2 - 1) < p2)) s2 x2 = if p1 = 2 ^ (w1 - 1) ∨ p2 = 2 ^ (w2 - 1) ∨ p2 = 0 then 2 ^ (w - 1) else rdR (sgI (pvI p1 w1) * sgI (pvI p2 w2)) (CP (pvI p1 w1).natAbs (pvI p2 w2).natAbs 0 1) w := by
  unfold quoA
  by_cases z1 : p1 = 2 ^ (w1 - 1)
  · rw [if_pos (Or.inl z1), if_pos (Or.inl (decide_eq_true z1))]
  · by_cases z2 : p2 = 2 ^ (w2 - 1)
    · rw [if_pos (Or.inr (Or.inl z2)), if_pos (Or.inr (Or.inl (decide_eq_true z2)))]
    · have v1 := pd_v h1 hp1 z1 d1
      have v2 := pd_v h2 hp2 z2 d2
      have b1 := pd_b h1 hp1 d1
      have b2 := pd_b h2 hp2 d2
      by_cases z3 : p2 = 0
      · rw [if_pos (Or.inr (Or.inr z3)), if_pos (Or.inr (Or.inr (v2.2.2.1.mpr (v2.2.2.2.mpr z3))))]
      · have hv2 : pvI p2 w2 ≠ 0 := fun y => z3 (v2.2.2.2.mp y)
        have hs2 : s2 ≠ 0 := fun y => hv2 (v2.2.2.1.mp y)
        rw [if_neg (by simp [z1, z2, hs2]), if_neg (by simp [z1, z2, z3])]
        by_cases y : pvI p1 w1 = 0
        · rw [y, show sgI 0 = 0 from rfl, Int.zero_mul, rd_0, v1.2.2.1.mpr y]
          unfold dvA
          rw [if_pos rfl]
        · have hs1 : s1 ≠ 0 := fun z => y (v1.2.2.1.mp z)
          rw [x_c y hv2, mi_b v1.2.1, mi_b v2.2.1, dv_eq hw _ (by omega) (by omega)]
          have c1 := CP_a (b := (pvI p2 w2).natAbs) (c := 120) (rt := 1) v1.1 b1.2.1
          have c2 := CP_b (b := s1) (c := x1) (rt := 1) v2.1 b2.2.1
          rw [c2, c1]
          rfl
theorem e_ra {x y : Int} (hw : 3 ≤ w ∧ w ≤ 32) : ratA w x y = if y = 0 then 2 ^ (w - 1) else rdR (if x = 0 then 0 else if decide (x < 0) = decide (y < 0) then 1 else -1) (CP x.natAbs y.natAbs 0 1) w := by
  unfold ratA
  by_cases z : y = 0
  · rw [if_pos z, if_pos z]
  · rw [if_neg z, if_neg z]
    by_cases q : x = 0
    · rw [if_pos q, rd_0, q]
      unfold dvA
      rw [if_pos (show Int.natAbs 0 = 0 from rfl)]
    · rw [if_neg q, dv_eq hw _ (by omega) (by omega)]
      congr 1
      cases decide (x < 0) <;> cases decide (y < 0) <;> rfl
theorem e_rt {k : Nat} (hk : 1 ≤ k ∧ k ≤ 8) (hw : 3 ≤ w ∧ w ≤ 32) (h1 : 3 ≤ w1 ∧ w1 ≤ 32) (hp1 : p1 < 2 ^ w1) (d1 : pd p1 w1 s1 x1) :
    rtA w (decide (p1 = 2 ^ (w1 - 1))) (decide (2 ^ (w1 - 1) < p1)) s1 x1 k = if p1 = 2 ^ (w1 - 1) ∨ (pvI p1 w1 < 0 ∧ k % 2 = 0) then 2 ^ (w - 1) else rdR (sgI (pvI p1 w1)) (CP (pvI p1 w1).natAbs 1 (-120) k) w := by
  unfold rtA
  by_cases z1 : p1 = 2 ^ (w1 - 1)
  · rw [if_pos (Or.inl z1), if_pos (Or.inl (decide_eq_true z1))]
  · have v1 := pd_v h1 hp1 z1 d1
    have b1 := pd_b h1 hp1 d1
    rw [mi_b v1.2.1]
    by_cases z2 : pvI p1 w1 < 0 ∧ k % 2 = 0
    · rw [if_pos (Or.inr z2), if_pos (Or.inr ⟨decide_eq_true z2.1, z2.2⟩)]
    · rw [if_neg (fun y => y.elim (fun q => z1 (of_decide_eq_true q)) (fun q => z2 ⟨of_decide_eq_true q.1, q.2⟩)), if_neg (show ¬ (p1 = 2 ^ (w1 - 1) ∨ (pvI p1 w1 < 0 ∧ k % 2 = 0)) from fun y => y.elim z1 z2)]
      by_cases y : pvI p1 w1 = 0
      · rw [if_pos (v1.2.2.1.mpr y), y]; exact rd_0.symm
      · have hs1 : s1 ≠ 0 := fun z => y (v1.2.2.1.mp z)
        rw [if_neg hs1, sg_c y, CP_a0 v1.1 b1.2.1]
        apply rl_eq hw
        unfold rS
        have n1 := nb_lo hs1
        have n2 := nb_hi s1
        have n3 := nb_pos hs1
        have n4 : nb s1 ≤ 30 := nb_le (k := 30) b1.1
        obtain ⟨s, es⟩ : ∃ s : Int, x1 + (nb s1 : Nat) - 1 = s := ⟨_, rfl⟩
        have eL : rL s1 x1 k = 30 - s / (k : Nat) := by unfold rL; rw [es]
        have eB : rB s1 x1 k = s1 * 2 ^ (x1 + (k : Nat) * rL s1 x1 k).toNat := rfl
        have hdm := Int.mul_ediv_add_emod s (k : Int)
        have hm1 := Int.emod_nonneg s (show (k : Int) ≠ 0 by omega)
        have hm2 := Int.emod_lt_of_pos s (show (0 : Int) < k by omega)
        obtain ⟨q, eq⟩ : ∃ q : Int, s / (k : Int) = q := ⟨_, rfl⟩
        obtain ⟨f, ef⟩ : ∃ f : Int, s % (k : Int) = f := ⟨_, rfl⟩
        rw [eq, ef] at hdm
        rw [ef] at hm1 hm2
        rw [eq] at eL
        obtain ⟨kq, ekq⟩ : ∃ kq : Int, (k : Int) * q = kq := ⟨_, rfl⟩
        have eK : (k : Int) * rL s1 x1 k = 30 * k - kq := by rw [eL, Int.mul_sub, ekq]; omega
        obtain ⟨t, et⟩ : ∃ t : Nat, x1 + (k : Nat) * rL s1 x1 k = t := ⟨(x1 + (k : Nat) * rL s1 x1 k).toNat, by rw [eK]; omega⟩
        rw [et, Int.toNat_natCast] at eB
        have ht : nb s1 - 1 + t = 30 * k + f.toNat := by rw [eK] at et; omega
        have bB1 : (2 ^ 30) ^ k ≤ rB s1 x1 k := by
          rw [eB, ← Nat.pow_mul]
          have : 2 ^ (nb s1 - 1) * 2 ^ t ≤ s1 * 2 ^ t := Nat.mul_le_mul_right _ n1
          rw [← Nat.pow_add, ht] at this
          exact Nat.le_trans (Nat.pow_le_pow_right (by decide) (by omega)) this
        have bB2 : rB s1 x1 k < (2 ^ 32) ^ k := by
          rw [eB, ← Nat.pow_mul]
          have : s1 * 2 ^ t < 2 ^ nb s1 * 2 ^ t := Nat.mul_lt_mul_of_pos_right n2 (p_pos _)
          rw [← Nat.pow_add] at this
          exact Nat.lt_of_lt_of_le this (Nat.pow_le_pow_right (by decide) (by omega))
        refine sk_bs (by decide) hk.1 (fun m => ?_) (by rw [Nat.one_mul]; exact bB1) (by rw [Nat.one_mul]; exact bB2)
        rw [cpr_xy (X := t) (Y := 0) (by rw [Int.neg_mul, Int.mul_comm (rL s1 x1 k)]; omega), ← eB, Nat.pow_zero, Nat.mul_one]
theorem e_un (hw : 3 ≤ w ∧ w ≤ 32) (h1 : 3 ≤ w1 ∧ w1 ≤ 32) (hp1 : p1 < 2 ^ w1) (d1 : pd p1 w1 s1 x1) :
    irA w (decide (p1 = 2 ^ (w1 - 1))) (decide (2 ^ (w1 - 1) < p1)) s1 x1 = if p1 = 2 ^ (w1 - 1) ∨ pvI p1 w1 ≤ 0 then 2 ^ (w - 1) else rdR 1 (CP 1 (pvI p1 w1).natAbs 120 2) w := by
  unfold irA
  by_cases z1 : p1 = 2 ^ (w1 - 1)
  · rw [if_pos (Or.inl z1), if_pos (Or.inl (decide_eq_true z1))]
  · have v1 := pd_v h1 hp1 z1 d1
    have b1 := pd_b h1 hp1 d1
    rw [mi_b v1.2.1]
    by_cases z2 : pvI p1 w1 ≤ 0
    · rw [if_pos (Or.inr z2), if_pos]
      right
      rcases Int.lt_or_le (pvI p1 w1) 0 with y | y
      · exact Or.inl (decide_eq_true y)
      · exact Or.inr (v1.2.2.1.mpr (by omega))
    · have hs1 : s1 ≠ 0 := fun z => by have := v1.2.2.1.mp z; omega
      rw [if_neg (by simp [z1, hs1]; omega), if_neg (show ¬ (p1 = 2 ^ (w1 - 1) ∨ pvI p1 w1 ≤ 0) from fun y => y.elim z1 z2)]
      have c2 := CP_b (b := 1) (c := 0) (rt := 2) v1.1 b1.2.1
      rw [show (0 : Int) + 120 = 120 from rfl, Int.zero_sub] at c2
      rw [← c2]
      show _ = rdR (cond false (-1) 1) _ _
      apply rl_eq hw
      unfold iS
      have eM : iM s1 x1 = s1 * 2 ^ (x1 % 2).toNat := rfl
      have eL : iL s1 x1 = 31 + nb (iM s1 x1) / 2 := rfl
      have hM0 : 0 < iM s1 x1 := by rw [eM]; exact Nat.mul_pos (by omega) (p_pos _)
      have n1 := nb_lo (x := iM s1 x1) (by omega)
      have n2 := nb_hi (iM s1 x1)
      have n3 := nb_pos (x := iM s1 x1) (by omega)
      refine sk_bs (by omega) (by decide) (fun m => ?_) ?_ ?_
      · rw [cpr_xy (X := 2 * iL s1 x1) (Y := (x1 % 2).toNat) (by omega), eM, Nat.mul_right_comm]
      · rw [Nat.one_mul, ← Nat.pow_mul]
        have : iM s1 x1 * 2 ^ (30 * 2) ≤ 2 ^ nb (iM s1 x1) * 2 ^ (30 * 2) := Nat.mul_le_mul_right _ (by omega)
        rw [← Nat.pow_add] at this
        exact Nat.le_trans this (Nat.pow_le_pow_right (by decide) (by omega))
      · rw [Nat.one_mul, ← Nat.pow_mul]
        have : 2 ^ (nb (iM s1 x1) - 1) * 2 ^ (32 * 2) ≤ iM s1 x1 * 2 ^ (32 * 2) := Nat.mul_le_mul_right _ n1
        rw [← Nat.pow_add] at this
        exact Nat.lt_of_lt_of_le (Nat.pow_lt_pow_right (by decide) (by omega)) this
theorem hy_eq {z : Nat} (hw : 3 ≤ w ∧ w ≤ 32) (hz : 0 < z) : hyA w z = rdR 1 (CP z 1 (-240) 2) w := by
  unfold hyA
  rw [if_neg (by omega)]
  show _ = rdR (cond false (-1) 1) _ _
  apply rl_eq hw
  unfold hS
  have eF : hF z = 1 * 2 ^ (2 * hH z).toNat := rfl
  have eB : hB z = z * 2 ^ (-2 * hH z).toNat := rfl
  have eH : hH z = ((nb z : Nat) - 61 : Int) / 2 := rfl
  have n1 := nb_lo (x := z) (by omega)
  have n2 := nb_hi z
  have n3 := nb_pos (x := z) (by omega)
  rw [Nat.one_mul] at eF
  refine sk_bs (by decide) (by decide) (fun m => ?_) ?_ ?_
  · rw [cpr_xy (X := (-2 * hH z).toNat) (Y := (2 * hH z).toNat) (by omega), ← eB, eF, Nat.one_mul, Nat.mul_comm (m ^ 2)]
  · rw [eF, eB, ← Nat.pow_mul, ← Nat.pow_add]
    have : 2 ^ (nb z - 1) * 2 ^ (-2 * hH z).toNat ≤ z * 2 ^ (-2 * hH z).toNat := Nat.mul_le_mul_right _ n1
    rw [← Nat.pow_add] at this
    exact Nat.le_trans (Nat.pow_le_pow_right (by decide) (by omega)) this
  · rw [eF, eB, ← Nat.pow_mul, ← Nat.pow_add]
    have : z * 2 ^ (-2 * hH z).toNat < 2 ^ nb z * 2 ^ (-2 * hH z).toNat := Nat.mul_lt_mul_of_pos_right n2 (p_pos _)
    rw [← Nat.pow_add] at this
    exact Nat.lt_of_lt_of_le this (Nat.pow_le_pow_right (by decide) (by omega))
theorem fa_q (h1 : 3 ≤ w1 ∧ w1 ≤ 32) (hp1 : p1 < 2 ^ w1) (z1 : p1 ≠ 2 ^ (w1 - 1)) (d1 : pd p1 w1 s1 x1) (h2 : 3 ≤ w2 ∧ w2 ≤ 32) (hp2 : p2 < 2 ^ w2) (z2 : p2 ≠ 2 ^ (w2 - 1)) (d2 : pd p2 w2 s2 x2) :
    qsz (pl2 false (s1 * s1 * 2 ^ (x1 + x1 + 240).toNat) false (s2 * s2 * 2 ^ (x2 + x2 + 240).toNat)) = (pvI p1 w1 * pvI p1 w1 + pvI p2 w2 * pvI p2 w2).natAbs ∧ (pvI p1 w1 * pvI p1 w1 + pvI p2 w2 * pvI p2 w2).natAbs ≤ 2 ^ 481 ∧ 0 ≤ pvI p1 w1 * pvI p1 w1 + pvI p2 w2 * pvI p2 w2 := by
  have b1 := pd_b h1 hp1 d1
  have b2 := pd_b h2 hp2 d2
  have e1 := pv_mul h1 hp1 z1 d1 h1 hp1 z1 d1 (x1 + x1 + 240).toNat (by omega)
  have e2 := pv_mul h2 hp2 z2 d2 h2 hp2 z2 d2 (x2 + x2 + 240).toNat (by omega)
  rw [Bool.xor_self] at e1 e2
  have l1 := pv_pr h1 hp1 z1 h1 hp1 z1
  have l2 := pv_pr h2 hp2 z2 h2 hp2 z2
  have : (2 : Nat) ^ 481 = 2 * 2 ^ 480 := pw2 (by decide)
  rw [pl2_q, ← e1, ← e2, (q512_s (two_480 l1 l2)).2]
  refine ⟨rfl, by omega, ?_⟩
  rw [e1, e2]
  unfold sgnd
  rw [cond_false, cond_false]
  omega
theorem e_fa (hw : 3 ≤ w ∧ w ≤ 32) (h1 : 3 ≤ w1 ∧ w1 ≤ 32) (hp1 : p1 < 2 ^ w1) (d1 : pd p1 w1 s1 x1) (h2 : 3 ≤ w2 ∧ w2 ≤ 32) (hp2 : p2 < 2 ^ w2) (d2 : pd p2 w2 s2 x2) :
    dsA w (decide (p1 = 2 ^ (w1 - 1))) s1 x1 (decide (p2 = 2 ^ (w2 - 1))) s2 x2 = if p1 = 2 ^ (w1 - 1) ∨ p2 = 2 ^ (w2 - 1) then 2 ^ (w - 1) else rdR (sgI (0 + 1 * (pvI p1 w1 * pvI p1 w1) + 1 * (pvI p2 w2 * pvI p2 w2))) (CP (0 + 1 * (pvI p1 w1 * pvI p1 w1) + 1 * (pvI p2 w2 * pvI p2 w2)).natAbs 1 (-240) 2) w := by
  unfold dsA
  by_cases z1 : p1 = 2 ^ (w1 - 1)
  · rw [if_pos (Or.inl z1), decide_eq_true z1]; rfl
  · by_cases z2 : p2 = 2 ^ (w2 - 1)
    · rw [if_pos (Or.inr z2), decide_eq_true z2, Bool.or_true]; rfl
    · have hq := fa_q h1 hp1 z1 d1 h2 hp2 z2 d2
      rw [if_neg (fun y => y.elim z1 z2), decide_eq_false z1, decide_eq_false z2, Bool.or_false, cond_false, hq.1, Int.zero_add, Int.one_mul, Int.one_mul]
      have h0 := hq.2.2
      generalize pvI p1 w1 * pvI p1 w1 + pvI p2 w2 * pvI p2 w2 = Q at h0 ⊢
      by_cases y : Q = 0
      · rw [y]
        show hyA w 0 = _
        unfold hyA
        rw [if_pos rfl]; exact rd_0.symm
      · rw [hy_eq hw (by omega), sg_c y, decide_eq_false (by omega)]; rfl
/-- powers -/
theorem e_pw {k : Int} (hk : -16 ≤ k ∧ k ≤ 16) (hw : 3 ≤ w ∧ w ≤ 32) (h1 : 3 ≤ w1 ∧ w1 ≤ 32) (hp1 : p1 < 2 ^ w1) (d1 : pd p1 w1 s1 x1) :
    pwA w (decide (p1 = 2 ^ (w1 - 1))) (decide (2 ^ (w1 - 1) < p1)) s1 x1 k = if p1 = 2 ^ (w1 - 1) ∨ (p1 = 0 ∧ k < 0) then 2 ^ (w - 1) else rdR (if k = 0 then 1 else if k % 2 = 0 then sgI (pvI p1 w1) * sgI (pvI p1 w1) else sgI (pvI p1 w1)) (if 0 ≤ k then CP ((pvI p1 w1).natAbs ^ k.natAbs) 1 (-((120 * k.natAbs : Nat) : Int)) 1 else CP 1 ((pvI p1 w1).natAbs ^ k.natAbs) ((120 * k.natAbs : Nat) : Int) 1) w := by
  unfold pwA
  by_cases z1 : p1 = 2 ^ (w1 - 1)
  · rw [if_pos (Or.inl z1), if_pos (Or.inl (decide_eq_true z1))]
  · have v1 := pd_v h1 hp1 z1 d1
    have b1 := pd_b h1 hp1 d1
    rw [mi_b v1.2.1, Nat.one_mul]
    by_cases z2 : p1 = 0 ∧ k < 0
    · rw [if_pos (Or.inr z2), if_pos (Or.inr ⟨v1.2.2.1.mpr (v1.2.2.2.mpr z2.1), z2.2⟩)]
    · rw [if_neg (fun y => y.elim (fun q => z1 (of_decide_eq_true q)) (fun q => z2 ⟨v1.2.2.2.mp (v1.2.2.1.mp q.1), q.2⟩)), if_neg (show ¬ (p1 = 2 ^ (w1 - 1) ∨ (p1 = 0 ∧ k < 0)) from fun y => y.elim z1 z2)]
      have sgn : s1 ≠ 0 ∨ k = 0 → (if k = 0 then 1 else if k % 2 = 0 then sgI (pvI p1 w1) * sgI (pvI p1 w1) else sgI (pvI p1 w1)) = cond (decide (pvI p1 w1 < 0) && decide (k % 2 = 1)) (-1) 1 := by
        intro hs
        by_cases k0 : k = 0
        · rw [if_pos k0, k0, show decide ((0 : Int) % 2 = 1) = false from rfl, Bool.and_false]; rfl
        · have y : pvI p1 w1 ≠ 0 := fun q => by have := v1.2.2.1.mpr q; omega
          rw [if_neg k0]
          by_cases k2 : k % 2 = 0
          · rw [if_pos k2, x_c y y, Bool.xor_self, decide_eq_false (show ¬ k % 2 = 1 by omega), Bool.and_false]
          · rw [if_neg k2, sg_c y, decide_eq_true (show k % 2 = 1 by omega), Bool.and_true]
      by_cases kp : 0 ≤ k
      · rw [if_pos kp, if_pos kp]
        have eK : k * x1 = x1 * (k.natAbs : Int) := by rw [Int.natAbs_of_nonneg kp, Int.mul_comm]
        by_cases hs : s1 ≠ 0 ∨ k = 0
        · have hpos : 0 < s1 ^ k.natAbs := by
            rcases hs with q | q
            · exact Nat.pow_pos (by omega)
            · rw [q]; exact Nat.one_pos
          rw [sgn hs, ← pw_up v1.1 b1.2.1, eK]
          exact rw_ex (t := 0) hw _ hpos (by rw [Nat.pow_zero, Nat.mul_one]) (by omega)
        · have hs1 : s1 = 0 := by omega
          have hk0 : k ≠ 0 := by omega
          have y : pvI p1 w1 = 0 := v1.2.2.1.mp hs1
          rw [if_neg hk0, y, show sgI 0 = 0 from rfl, hs1, Nat.zero_pow (by omega), show (if k % 2 = 0 then (0 : Int) * 0 else 0) = 0 from by split <;> rfl, rd_0]
          unfold rwd
          rw [Nat.zero_div, rl_0]
      · have hs1 : s1 ≠ 0 := fun q => z2 ⟨v1.2.2.2.mp (v1.2.2.1.mp q), by omega⟩
        rw [if_neg kp, if_neg kp, sgn (Or.inl hs1), ← pw_dn v1.1 b1.2.1, show k * x1 = -(x1 * (k.natAbs : Int)) from by rw [show k = -(k.natAbs : Int) from by omega, Int.neg_mul, Int.mul_comm]; simp, dv_eq hw _ (by decide) (Nat.pow_pos (by omega))]
end
