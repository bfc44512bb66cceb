/-! Mathematics: the acts' answers are the reference's -/
theorem pm_b {p n : Nat} (hn : 3 ≤ n ∧ n ≤ 32) (hp : p < 2 ^ n) (h0 : p ≠ 0) (h9 : p ≠ 2 ^ (n - 1)) : 0 < pmag p n ∧ pmag p n < 2 ^ (n - 1) := by
  have e2 : 2 ^ n = 2 * 2 ^ (n - 1) := pw2 (by omega)
  unfold pmag
  split <;> omega
/-- a pattern's parts stay within their bounds -/
theorem pd_b {p n sg : Nat} {ex : Int} (hn : 3 ≤ n ∧ n ≤ 32) (hp : p < 2 ^ n) (h : pd p n sg ex) : sg < 1073741824 ∧ -120 ≤ ex ∧ ex ≤ 120 := by
  unfold pd at h
  by_cases z : p = 0 ∨ p = 2 ^ (n - 1)
  · rw [if_pos z] at h; omega
  · rw [if_neg z] at h
    have hb := pm_b hn hp (fun y => z (Or.inl y)) (fun y => z (Or.inr y))
    have := ld_b (by omega) hb.1 hb.2 (fun y => by omega) h
    omega
/-- a pattern's parts are its value's -/
theorem pd_v {p n sg : Nat} {ex : Int} (hn : 3 ≤ n ∧ n ≤ 32) (hp : p < 2 ^ n) (h9 : p ≠ 2 ^ (n - 1)) (h : pd p n sg ex) : (pvI p n).natAbs = sg * 2 ^ (ex + 120).toNat ∧ (pvI p n < 0 ↔ 2 ^ (n - 1) < p) ∧ (sg = 0 ↔ pvI p n = 0) ∧ (pvI p n = 0 ↔ p = 0) := by
  have e2 : 2 ^ n = 2 * 2 ^ (n - 1) := pw2 (by omega)
  have hpp := p_pos (n - 1)
  unfold pd at h
  by_cases z : p = 0
  · rw [if_pos (Or.inl z)] at h
    have e0 : pvI p n = 0 := by unfold pvI; rw [if_pos z]
    rw [e0, h.1, Nat.zero_mul]
    exact ⟨rfl, by omega, by omega, by omega⟩
  · rw [if_neg (fun y => y.elim z h9)] at h
    have hb := pm_b hn hp z h9
    have hl := ld_b (by omega) hb.1 hb.2 (fun y => by omega) h
    have hm := ld_md h
    have hv := uv_md hm.1 hl.2.2.1 hl.1
    have hpos : 0 < sg * 2 ^ (ex + 120).toNat := Nat.mul_pos hl.1 (p_pos _)
    unfold pvI pmag at *
    rw [if_neg z]
    by_cases y : p < 2 ^ (n - 1)
    · rw [if_pos y]
      rw [if_neg (by omega)] at hv
      rw [hv]
      omega
    · rw [if_neg y]
      rw [if_pos (by omega)] at hv
      rw [hv]
      omega
/-- the sign of a value -/
theorem sg_c {v : Int} (h : v ≠ 0) : sgI v = cond (decide (v < 0)) (-1) 1 := by
  rcases sgI_c v with ⟨a, b⟩ | ⟨a, b⟩ | ⟨a, b⟩
  · rw [b, decide_eq_true a]; rfl
  · exact absurd a h
  · rw [b, decide_eq_false (by omega)]; rfl
theorem rl_0 {n : Nat} {mi mo : Bool} {X : Int} : rlg n mi 0 X mo = 0 := by unfold rlg; rw [if_pos rfl]
theorem rd_0 {C : Nat → Nat → Int} {n : Nat} : rdR 0 C n = 0 := by unfold rdR; rw [if_pos rfl]
theorem mi_b {p n : Nat} {v : Int} (h : v < 0 ↔ 2 ^ (n - 1) < p) : decide (2 ^ (n - 1) < p) = decide (v < 0) := by
  by_cases q : v < 0
  · rw [decide_eq_true q, decide_eq_true (h.mp q)]
  · rw [decide_eq_false q, decide_eq_false (fun z => q (h.mpr z))]
theorem CP_a0 {M b : Nat} {E : Int} {rt U : Nat} (hU : U = M * 2 ^ (E + 120).toNat) (hE : -120 ≤ E) : CP U b (-120) rt = CP M b E rt := by
  have := CP_a (b := b) (c := 0) (rt := rt) hU hE
  rw [Int.add_zero, Int.add_zero] at this
  exact this.symm
section
variable {p1 p2 p3 w1 w2 w3 w s1 s2 s3 : Nat} {x1 x2 x3 : Int}
/-- taking -/
theorem e_tk (hw : 3 ≤ w ∧ w ≤ 32) (h1 : 3 ≤ w1 ∧ w1 ≤ 32) (hp1 : p1 < 2 ^ w1) (d1 : pd p1 w1 s1 x1) : sam w (decide (p1 = 2 ^ (w1 - 1))) (decide (2 ^ (w1 - 1) < p1)) s1 x1 = if p1 = 2 ^ (w1 - 1) then 2 ^ (w - 1) else rdR (sgI (pvI p1 w1)) (CP (pvI p1 w1).natAbs 1 (-120) 1) w := by
  unfold sam
  by_cases z : p1 = 2 ^ (w1 - 1)
  · rw [if_pos z, decide_eq_true z]; rfl
  · rw [if_neg z, decide_eq_false z, cond_false]
    have hv := pd_v h1 hp1 z d1
    have hb := pd_b h1 hp1 d1
    by_cases y : pvI p1 w1 = 0
    · rw [y, hv.2.2.1.mpr y, rl_0]; exact rd_0.symm
    · rw [mi_b hv.2.1, sg_c y, CP_a0 hv.1 (by omega)]
      exact rl_ex hw _ (by omega) (cpr_ex (t := 0) (by rw [Nat.pow_zero, Nat.mul_one]) (by omega))
/-- products -/
theorem pv_mul (h1 : 3 ≤ w1 ∧ w1 ≤ 32) (hp1 : p1 < 2 ^ w1) (z1 : p1 ≠ 2 ^ (w1 - 1)) (d1 : pd p1 w1 s1 x1) (h2 : 3 ≤ w2 ∧ w2 ≤ 32) (hp2 : p2 < 2 ^ w2) (z2 : p2 ≠ 2 ^ (w2 - 1)) (d2 : pd p2 w2 s2 x2) (sh : Nat) (hsh : x1 + x2 + 240 = (sh : Int)) :
    pvI p1 w1 * pvI p2 w2 = sgnd (decide (2 ^ (w1 - 1) < p1) ^^ decide (2 ^ (w2 - 1) < p2)) (s1 * s2 * 2 ^ sh) := by
  have v1 := pd_v h1 hp1 z1 d1
  have v2 := pd_v h2 hp2 z2 d2
  have b1 := pd_b h1 hp1 d1
  have b2 := pd_b h2 hp2 d2
  have e1 : s1 * s2 * 2 ^ sh = (pvI p1 w1).natAbs * (pvI p2 w2).natAbs := by
    rw [v1.1, v2.1, show sh = (x1 + 120).toNat + (x2 + 120).toNat from by omega, Nat.pow_add]
    generalize 2 ^ (x1 + 120).toNat = A
    generalize 2 ^ (x2 + 120).toNat = B
    rw [Nat.mul_mul_mul_comm s1 A s2 B]
  rw [e1, mi_b v1.2.1, mi_b v2.2.1]
  generalize pvI p1 w1 = a
  generalize pvI p2 w2 = b
  unfold sgnd
  by_cases q1 : a < 0
  · by_cases q2 : b < 0
    · rw [decide_eq_true q1, decide_eq_true q2]
      show a * b = ((a.natAbs * b.natAbs : Nat) : Int)
      rw [Int.natCast_mul, Int.ofNat_natAbs_of_nonpos (by omega), Int.ofNat_natAbs_of_nonpos (by omega), Int.neg_mul_neg]
    · rw [decide_eq_true q1, decide_eq_false q2]
      show a * b = -((a.natAbs * b.natAbs : Nat) : Int)
      rw [Int.natCast_mul, Int.ofNat_natAbs_of_nonpos (by omega), Int.natAbs_of_nonneg (by omega), Int.neg_mul, Int.neg_neg]
  · by_cases q2 : b < 0
    · rw [decide_eq_false q1, decide_eq_true q2]
      show a * b = -((a.natAbs * b.natAbs : Nat) : Int)
      rw [Int.natCast_mul, Int.natAbs_of_nonneg (by omega), Int.ofNat_natAbs_of_nonpos (by omega), Int.mul_neg, Int.neg_neg]
    · rw [decide_eq_false q1, decide_eq_false q2]
      show a * b = ((a.natAbs * b.natAbs : Nat) : Int)
      rw [Int.natCast_mul, Int.natAbs_of_nonneg (by omega), Int.natAbs_of_nonneg (by omega)]
theorem sgnd_abs (m : Bool) (x : Nat) : (sgnd m x).natAbs = x := by cases m <;> simp [sgnd]
theorem sgnd_sg {m : Bool} {x : Nat} (h : 0 < x) : sgI (sgnd m x) = cond m (-1) 1 := by
  cases m
  · unfold sgnd sgI; rw [cond_false, cond_false, if_neg (by omega), if_neg (by omega)]
  · unfold sgnd sgI; rw [cond_true, cond_true, if_pos (by omega)]
theorem e_tm (hw : 3 ≤ w ∧ w ≤ 32) (h1 : 3 ≤ w1 ∧ w1 ≤ 32) (hp1 : p1 < 2 ^ w1) (d1 : pd p1 w1 s1 x1) (h2 : 3 ≤ w2 ∧ w2 ≤ 32) (hp2 : p2 < 2 ^ w2) (d2 : pd p2 w2 s2 x2) :
    prdA w (decide (p1 = 2 ^ (w1 - 1))) (decide (2 ^ (w1 - 1) < p1)) s1 x1 (decide (p2 = 2 ^ (w2 - 1))) (decide (2 ^ (w2 - 1) < p2)) s2 x2 = if p1 = 2 ^ (w1 - 1) ∨ p2 = 2 ^ (w2 - 1) then 2 ^ (w - 1) else rdR (sgI (0 + 1 * (pvI p1 w1 * pvI p2 w2))) (CP (0 + 1 * (pvI p1 w1 * pvI p2 w2)).natAbs 1 (-240) 1) w := by
  unfold prdA
  by_cases z1 : p1 = 2 ^ (w1 - 1)
  · rw [if_pos (Or.inl z1), decide_eq_true z1]; rfl
  · by_cases z2 : p2 = 2 ^ (w2 - 1)
    · rw [if_pos (Or.inr z2), decide_eq_true z2, Bool.or_true]; rfl
    · rw [if_neg (fun y => y.elim z1 z2), decide_eq_false z1, decide_eq_false z2]
      have b1 := pd_b h1 hp1 d1
      have b2 := pd_b h2 hp2 d2
      obtain ⟨sh, hsh⟩ : ∃ sh : Nat, x1 + x2 + 240 = (sh : Int) := ⟨(x1 + x2 + 240).toNat, by omega⟩
      rw [Int.zero_add, Int.one_mul, pv_mul h1 hp1 z1 d1 h2 hp2 z2 d2 sh hsh, sgnd_abs]
      show rlg w _ (s1 * s2) (x1 + x2) false = _
      rcases Nat.eq_zero_or_pos (s1 * s2) with y | y
      · rw [y, rl_0, Nat.zero_mul]
        have : sgI (sgnd (decide (2 ^ (w1 - 1) < p1) ^^ decide (2 ^ (w2 - 1) < p2)) 0) = 0 := by
          cases (decide (2 ^ (w1 - 1) < p1) ^^ decide (2 ^ (w2 - 1) < p2)) <;> rfl
        rw [this]; exact rd_0.symm
      · rw [sgnd_sg (Nat.mul_pos y (p_pos sh))]
        exact rl_ex hw _ y (cpr_ex (t := sh) rfl (by omega))
/-! sums -/
theorem q512_add {Q : Int} {d : Bool} {T : Nat} : qad (q512 Q) d T = q512 (Q + sgnd d T) := by
  unfold qad q512
  have hP : (0 : Int) < ((2 ^ 512 : Nat) : Int) := Int.natCast_pos.mpr (p_pos 512)
  generalize ((2 ^ 512 : Nat) : Int) = P at *
  rw [Int.toNat_of_nonneg (Int.emod_nonneg Q (by omega))]
  congr 1
  rw [Int.emod_add_emod]
theorem q512_0 : q512 0 = 0 := by unfold q512; rw [Int.zero_emod]; rfl
theorem q512_s {Q : Int} (h : Q.natAbs < 2 ^ 511) : decide (2 ^ 511 ≤ q512 Q) = decide (Q < 0) ∧ qsz (q512 Q) = Q.natAbs := by
  have e2 : (2 : Nat) ^ 512 = 2 * 2 ^ 511 := pw2 (by decide)
  unfold qsz
  obtain ⟨P, eP⟩ : ∃ P : Nat, 2 ^ 511 = P := ⟨_, rfl⟩
  rw [eP] at h e2 ⊢
  have e3 : q512 Q = if Q < 0 then 2 * P - Q.natAbs else Q.natAbs := by
    unfold q512
    rw [e2]
    by_cases z : Q < 0
    · rw [if_pos z]
      have : Q % ((2 * P : Nat) : Int) = Q + ((2 * P : Nat) : Int) := by
        have h5 : Q % ((2 * P : Nat) : Int) = (Q + ((2 * P : Nat) : Int)) % ((2 * P : Nat) : Int) := by rw [Int.add_emod, Int.emod_self, Int.add_zero, Int.emod_emod]
        rw [h5]
        exact Int.emod_eq_of_lt (by omega) (by omega)
      rw [this]; omega
    · rw [if_neg z, Int.emod_eq_of_lt (by omega) (by omega)]; omega
  rw [e3, e2]
  by_cases z : Q < 0
  · rw [if_pos z, decide_eq_true z, decide_eq_true (by omega), if_pos (by omega)]
    exact ⟨rfl, by omega⟩
  · rw [if_neg z, decide_eq_false z, decide_eq_false (by omega), if_neg (by omega)]
    exact ⟨rfl, rfl⟩
theorem e_st {Q : Int} (hw : 3 ≤ w ∧ w ≤ 32) (h : Q.natAbs < 2 ^ 511) : stl w false (q512 Q) = rdR (sgI Q) (CP Q.natAbs 1 (-240) 1) w := by
  unfold stl
  rw [cond_false, (q512_s h).1, (q512_s h).2]
  by_cases z : Q = 0
  · rw [z]
    show rlg w _ (0 / 2 ^ (nb 0 - 62)) _ _ = _
    rw [Nat.zero_div, rl_0]; exact rd_0.symm
  · rw [sg_c z]
    exact rw_ex (t := 0) hw _ (by omega) (by rw [Nat.pow_zero, Nat.mul_one]) (by omega)
/-- one value, in units of 2^-240 -/
theorem pv_one (h1 : 3 ≤ w1 ∧ w1 ≤ 32) (hp1 : p1 < 2 ^ w1) (z1 : p1 ≠ 2 ^ (w1 - 1)) (d1 : pd p1 w1 s1 x1) : pvI p1 w1 * ((2 ^ 120 : Nat) : Int) = sgnd (decide (2 ^ (w1 - 1) < p1)) (s1 * 2 ^ (x1 + 240).toNat) := by
  have v1 := pd_v h1 hp1 z1 d1
  have b1 := pd_b h1 hp1 d1
  rw [mi_b v1.2.1, show (x1 + 240).toNat = (x1 + 120).toNat + 120 from by omega, Nat.pow_add, ← Nat.mul_assoc, ← v1.1, sgnd_mul]
  congr 1
  unfold sgnd
  by_cases q : pvI p1 w1 < 0
  · rw [decide_eq_true q, cond_true]; omega
  · rw [decide_eq_false q, cond_false]; omega
/-- a size is at most 2^120 -/
theorem uv_le {u n : Nat} (hn : 3 ≤ n ∧ n ≤ 32) (hu : 0 < u) (hu2 : u < 2 ^ (n - 1)) : uv u n ≤ 2 ^ 240 := by
  obtain ⟨r, t, hd⟩ := dec_ex hn.1 (by omega) hu hu2
  have hb := dec_b (by omega) hu hu2 hd
  have ht := hd.2.2.1
  unfold uv pM pE
  rw [dec_R hd]
  show (1073741824 + t % 1073741824) * 2 ^ (4 * r + ((t / 1073741824 : Nat) : Int) - 30 + 150).toNat / 1073741824 ≤ 2 ^ 240
  rcases Int.lt_or_le r 30 with y | y
  · have e1 : 2 ^ (4 * r + ((t / 1073741824 : Nat) : Int) - 30 + 150).toNat ≤ 2 ^ 239 := Nat.pow_le_pow_right (by decide) (by omega)
    have e2 : (1073741824 + t % 1073741824) * 2 ^ (4 * r + ((t / 1073741824 : Nat) : Int) - 30 + 150).toNat ≤ 2147483648 * 2 ^ 239 := Nat.mul_le_mul (by omega) e1
    omega
  · have ht0 := (hb.2.2.2.2.1 (by omega)).1
    rw [ht0, show (4 * r + ((0 / 1073741824 : Nat) : Int) - 30 + 150).toNat = 240 from by omega]
    omega
theorem pv_le (h1 : 3 ≤ w1 ∧ w1 ≤ 32) (hp1 : p1 < 2 ^ w1) (z1 : p1 ≠ 2 ^ (w1 - 1)) : (pvI p1 w1).natAbs ≤ 2 ^ 240 := by
  have e2 : 2 ^ w1 = 2 * 2 ^ (w1 - 1) := pw2 (by omega)
  unfold pvI
  split
  · exact Nat.zero_le _
  · split
    · rw [Int.natAbs_natCast]; exact uv_le h1 (by omega) (by omega)
    · rw [Int.natAbs_neg, Int.natAbs_natCast]; exact uv_le h1 (by omega) (by omega)
theorem pv_pr (h1 : 3 ≤ w1 ∧ w1 ≤ 32) (hp1 : p1 < 2 ^ w1) (z1 : p1 ≠ 2 ^ (w1 - 1)) (h2 : 3 ≤ w2 ∧ w2 ≤ 32) (hp2 : p2 < 2 ^ w2) (z2 : p2 ≠ 2 ^ (w2 - 1)) : (pvI p1 w1 * pvI p2 w2).natAbs ≤ 2 ^ 480 := by
  rw [Int.natAbs_mul]
  exact Nat.le_trans (Nat.mul_le_mul (pv_le h1 hp1 z1) (pv_le h2 hp2 z2)) (by rw [← Nat.pow_add]; exact Nat.le_refl _)
theorem pv_on (h1 : 3 ≤ w1 ∧ w1 ≤ 32) (hp1 : p1 < 2 ^ w1) (z1 : p1 ≠ 2 ^ (w1 - 1)) : (pvI p1 w1 * ((2 ^ 120 : Nat) : Int)).natAbs ≤ 2 ^ 480 := by
  rw [Int.natAbs_mul, Int.natAbs_natCast]
  exact Nat.le_trans (Nat.mul_le_mul (pv_le h1 hp1 z1) (Nat.le_refl _)) (by rw [← Nat.pow_add]; exact Nat.pow_le_pow_right (by decide) (by decide))
theorem two_480 {a b : Int} (ha : a.natAbs ≤ 2 ^ 480) (hb : b.natAbs ≤ 2 ^ 480) : (a + b).natAbs < 2 ^ 511 := by
  have : (2 : Nat) ^ 480 + 2 ^ 480 < 2 ^ 511 := by decide
  omega
theorem pl2_q {d1 d2 : Bool} {T1 T2 : Nat} : pl2 d1 T1 d2 T2 = q512 (sgnd d1 T1 + sgnd d2 T2) := by
  unfold pl2
  rw [show qad 0 d1 T1 = q512 (sgnd d1 T1) from by have := q512_add (Q := 0) (d := d1) (T := T1); rw [q512_0, Int.zero_add] at this; exact this, q512_add]
theorem sgnd_x (b m : Bool) (x : Nat) : sgnd (b ^^ m) x = (cond b (-1) 1) * sgnd m x := by
  cases b <;> cases m <;> simp [sgnd]
/-- sums of two -/
theorem e_ad (mi : Bool) (hw : 3 ≤ w ∧ w ≤ 32) (h1 : 3 ≤ w1 ∧ w1 ≤ 32) (hp1 : p1 < 2 ^ w1) (d1 : pd p1 w1 s1 x1) (h2 : 3 ≤ w2 ∧ w2 ≤ 32) (hp2 : p2 < 2 ^ w2) (d2 : pd p2 w2 s2 x2) :
    sumA w (decide (p1 = 2 ^ (w1 - 1))) (decide (2 ^ (w1 - 1) < p1)) s1 x1 (decide (p2 = 2 ^ (w2 - 1))) (decide (2 ^ (w2 - 1) < p2)) s2 x2 mi = if p1 = 2 ^ (w1 - 1) ∨ p2 = 2 ^ (w2 - 1) then 2 ^ (w - 1) else rdR (sgI (0 + 1 * (pvI p1 w1 * (2 ^ 120 : Nat)) + (cond mi (-1) 1) * (pvI p2 w2 * (2 ^ 120 : Nat)))) (CP (0 + 1 * (pvI p1 w1 * (2 ^ 120 : Nat)) + (cond mi (-1) 1) * (pvI p2 w2 * (2 ^ 120 : Nat))).natAbs 1 (-240) 1) w := by
  unfold sumA
  by_cases z1 : p1 = 2 ^ (w1 - 1)
  · rw [if_pos (Or.inl z1), decide_eq_true z1]; rfl
  · by_cases z2 : p2 = 2 ^ (w2 - 1)
    · rw [if_pos (Or.inr z2), decide_eq_true z2, Bool.or_true]; rfl
    · rw [if_neg (fun y => y.elim z1 z2), decide_eq_false z1, decide_eq_false z2, Bool.or_false, cond_false, pl2_q, sgnd_x, ← pv_one h1 hp1 z1 d1, ← pv_one h2 hp2 z2 d2, Int.zero_add, Int.one_mul]
      apply e_st hw
      apply two_480 (pv_on h1 hp1 z1)
      rw [Int.natAbs_mul]
      have := pv_on h2 hp2 z2
      cases mi
      · rw [cond_false, show (1 : Int).natAbs = 1 from rfl, Nat.one_mul]; exact this
      · rw [cond_true, show (-1 : Int).natAbs = 1 from rfl, Nat.one_mul]; exact this
theorem e_fu (hw : 3 ≤ w ∧ w ≤ 32) (h1 : 3 ≤ w1 ∧ w1 ≤ 32) (hp1 : p1 < 2 ^ w1) (d1 : pd p1 w1 s1 x1) (h2 : 3 ≤ w2 ∧ w2 ≤ 32) (hp2 : p2 < 2 ^ w2) (d2 : pd p2 w2 s2 x2) (h3 : 3 ≤ w3 ∧ w3 ≤ 32) (hp3 : p3 < 2 ^ w3) (d3 : pd p3 w3 s3 x3) :
    fusA w (decide (p1 = 2 ^ (w1 - 1))) (decide (2 ^ (w1 - 1) < p1)) s1 x1 (decide (p2 = 2 ^ (w2 - 1))) (decide (2 ^ (w2 - 1) < p2)) s2 x2 (decide (p3 = 2 ^ (w3 - 1))) (decide (2 ^ (w3 - 1) < p3)) s3 x3 = if p1 = 2 ^ (w1 - 1) ∨ p2 = 2 ^ (w2 - 1) ∨ p3 = 2 ^ (w3 - 1) then 2 ^ (w - 1) else rdR (sgI (0 + 1 * (pvI p1 w1 * pvI p2 w2) + 1 * (pvI p3 w3 * ((2 ^ 120 : Nat) : Int)))) (CP (0 + 1 * (pvI p1 w1 * pvI p2 w2) + 1 * (pvI p3 w3 * ((2 ^ 120 : Nat) : Int))).natAbs 1 (-240) 1) w := by
  unfold fusA
  by_cases z1 : p1 = 2 ^ (w1 - 1)
  · rw [if_pos (Or.inl z1), decide_eq_true z1]; rfl
  · by_cases z2 : p2 = 2 ^ (w2 - 1)
    · rw [if_pos (Or.inr (Or.inl z2)), decide_eq_true z2, Bool.or_true]; rfl
    · by_cases z3 : p3 = 2 ^ (w3 - 1)
      · rw [if_pos (Or.inr (Or.inr z3)), decide_eq_true z3, Bool.or_true]; rfl
      · have b1 := pd_b h1 hp1 d1
        have b2 := pd_b h2 hp2 d2
        rw [if_neg (fun y => y.elim z1 (fun y => y.elim z2 z3)), decide_eq_false z1, decide_eq_false z2, decide_eq_false z3, Bool.or_false, Bool.or_false, cond_false, pl2_q, ← pv_mul h1 hp1 z1 d1 h2 hp2 z2 d2 (x1 + x2 + 240).toNat (by omega), ← pv_one h3 hp3 z3 d3, Int.zero_add, Int.one_mul, Int.one_mul]
        exact e_st hw (two_480 (pv_pr h1 hp1 z1 h2 hp2 z2) (pv_on h3 hp3 z3))
/-- a product comes into a quire -/
theorem e_ga {Q : Int} {aw : Bool} (h1 : 3 ≤ w1 ∧ w1 ≤ 32) (hp1 : p1 < 2 ^ w1) (z1 : p1 ≠ 2 ^ (w1 - 1)) (d1 : pd p1 w1 s1 x1) (h2 : 3 ≤ w2 ∧ w2 ≤ 32) (hp2 : p2 < 2 ^ w2) (z2 : p2 ≠ 2 ^ (w2 - 1)) (d2 : pd p2 w2 s2 x2) (sh : Nat) (hsh : x1 + x2 + 240 = (sh : Int)) :
    qad (q512 Q) (aw ^^ decide (2 ^ (w1 - 1) < p1) ^^ decide (2 ^ (w2 - 1) < p2)) (s1 * s2 * 2 ^ sh) = q512 (Q + (cond aw (-1) 1) * (pvI p1 w1 * pvI p2 w2)) := by
  rw [q512_add, Bool.xor_assoc, sgnd_x, ← pv_mul h1 hp1 z1 d1 h2 hp2 z2 d2 sh hsh]
end
