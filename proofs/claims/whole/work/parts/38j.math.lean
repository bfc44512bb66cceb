/-! Mathematics: the shortest decimal's text -/
theorem wT_of {v K : Nat} (h : dgK v K) (hK : K ≠ 0) : wT v = (dl v K).reverse := by
  unfold wT wK
  rw [ndc_u h, if_neg hK]
theorem wT_0 : wT 0 = [48] := by
  unfold wT wK
  rw [ndc_u (v := 0) (K := 0) ⟨by decide, fun i hi => absurd hi (by omega)⟩, if_pos rfl]
theorem dg_1 {v : Nat} (h1 : 1 ≤ v) (h2 : v < 10) : dgK v 1 := ⟨by omega, fun i hi => by rw [show i = 0 from by omega]; exact h1⟩
theorem dg_2 {v : Nat} (h1 : 10 ≤ v) (h2 : v < 100) : dgK v 2 := ⟨by omega, fun i hi => by
  rcases Nat.eq_zero_or_pos i with z | z
  · rw [z]; omega
  · rw [show i = 1 from by omega]; omega⟩
theorem pT_eq {p : Int} (h : -99 ≤ p ∧ p ≤ 99) : pT p = pwT p := by
  unfold pT pwT
  congr 1
  obtain ⟨n, en⟩ : ∃ n, p.natAbs = n := ⟨_, rfl⟩
  have hn : n < 100 := by omega
  rw [en]
  by_cases z : n = 0
  · rw [z, wT_0]; rfl
  · by_cases y : n < 10
    · rw [wT_of (dg_1 (by omega) y) (by decide), if_neg (by omega)]
      show [48 + n % 10] = [48 + n % 10]
      rfl
    · rw [wT_of (dg_2 (by omega) hn) (by decide), if_pos (by omega)]
      show [48 + n / 10 % 10, 48 + n % 10] = [48 + n / 10, 48 + n % 10]
      rw [Nat.mod_eq_of_lt (by omega : n / 10 < 10)]
/-- the dot behind the first digit -/
def p46 (G : List Nat) : List Nat := if G = [] then [] else G.take 1 ++ ([46] ++ G.drop 1)
theorem p46_app {G : List Nat} (x : Nat) (h : G ≠ []) : p46 (G ++ [x]) = p46 G ++ [x] := by
  unfold p46
  cases G with
  | nil => exact absurd rfl h
  | cons a t => rw [if_neg (by simp), if_neg (by simp)]; simp
theorem fit_10 {a b : Nat} {ev : Bool} : fit (a * 10) (b * 10) ev = fit a b ev := by
  unfold fit
  rw [dec_iff (show a * 10 < b * 10 ↔ a < b by omega), dec_iff (show a * 10 = b * 10 ↔ a = b by omega)]
theorem dl_dig {Lw q c : Nat} (hq : q < 10) : (dl (Lw * 10 + q) (c + 1)).reverse = (dl Lw c).reverse ++ [48 + q] := by
  show ((48 + (Lw * 10 + q) % 10) :: dl ((Lw * 10 + q) / 10) c).reverse = _
  rw [show (Lw * 10 + q) % 10 = q from by omega, show (Lw * 10 + q) / 10 = Lw from by omega, List.reverse_cons]
/-- a number whose last digit isn't 0 keeps its digits -/
theorem fw_dig {Lw x c : Nat} {ten : Int} (hx : 1 ≤ x ∧ x ≤ 9) (hL : c = 0 → Lw = 0) (hL2 : c ≠ 0 → 10 ^ (c - 1) ≤ Lw ∧ Lw < 10 ^ c) (ht : -90 ≤ ten ∧ ten ≤ 90) : fwT (Lw * 10 + x) ten (c + 1) = (if c = 0 then [48 + x] else p46 ((dl Lw c).reverse) ++ [48 + x]) ++ ([101] ++ pwT ten) := by
  have hdg : dgK (Lw * 10 + x) (c + 1) := by
    by_cases z : c = 0
    · rw [hL z, z, Nat.zero_mul, Nat.zero_add]; exact dg_1 hx.1 (by omega)
    · obtain ⟨k1, k2⟩ := hL2 z
      have e1 : (10 : Nat) ^ c = 10 * 10 ^ (c - 1) := by rw [Nat.mul_comm, ← Nat.pow_succ, show (c - 1).succ = c from by omega]
      refine ⟨by rw [Nat.pow_succ]; omega, fun i hi => ?_⟩
      have : (10 : Nat) ^ i ≤ 10 ^ c := Nat.pow_le_pow_right (by decide) (by omega)
      omega
  have eG := wT_of hdg (by omega)
  rw [dl_dig (by omega)] at eG
  have eL : (wT (Lw * 10 + x)).length = c + 1 := by rw [eG, List.length_append, List.length_reverse, dl_len, List.length_singleton]
  unfold fwT
  rw [eL, eG]
  have hget : ((dl Lw c).reverse ++ [48 + x])[c]? = some (48 + x) := by
    rw [List.getElem?_append_right (by rw [List.length_reverse, dl_len]; exact Nat.le_refl _), List.length_reverse, dl_len, Nat.sub_self]; rfl
  have es : slf ((dl Lw c).reverse ++ [48 + x]) (c + 1) = c + 1 := by
    unfold slf
    rw [if_neg]
    intro z
    rw [hget] at z
    have := Option.some.inj z.2
    omega
  rw [es, show ten + ((c + 1 : Nat) : Int) - ((c + 1 : Nat) : Int) = ten from by omega, pT_eq (by omega)]
  congr 1
  unfold ins
  by_cases z : c = 0
  · rw [if_neg (by omega), if_pos z, z]; rfl
  · have hne : (dl Lw c).reverse ≠ [] := fun q => by
      have := congrArg List.length q
      rw [List.length_reverse, dl_len] at this
      exact z this
    rw [if_pos (by omega), if_neg z, ← p46_app (48 + x) hne]
    unfold p46
    rw [if_neg (by simp), List.take_of_length_le (l := (dl Lw c).reverse ++ [48 + x]) (i := c + 1) (by rw [List.length_append, List.length_reverse, dl_len, List.length_singleton]; exact Nat.le_refl _)]
theorem fw_ten {ten : Int} (ht : -90 ≤ ten ∧ ten ≤ 90) : fwT 10 ten 1 = [49] ++ ([101] ++ pwT (ten + 1)) := by
  have eG : wT 10 = [49, 48] := by rw [wT_of (dg_2 (by decide) (by decide)) (by decide)]; rfl
  unfold fwT
  rw [eG]
  show ins [49, 48] (slf [49, 48] 2) ++ ([101] ++ pT (ten + ((2 : Nat) : Int) - ((1 : Nat) : Int))) = _
  rw [show slf [49, 48] 2 = 1 from rfl, show ten + ((2 : Nat) : Int) - ((1 : Nat) : Int) = ten + 1 from by omega, pT_eq (by omega)]
  rfl
section
variable {w u R EL EH j k U D dd cc : Nat} {ten : Int} {sL : List Nat}
/-- both seek alike -/
theorem sh_rs (h : SXp w u R EL EH) (eU : 1 * 2 ^ 120 * 10 ^ j = U) (eten : (j : Int) - k = ten) (hD : 0 < D) (ht : -80 ≤ ten ∧ ten ≤ 80) : ∀ (m m2 c R1 N1 Lw B1 A1 : Nat), m ≤ m2 → Lw * 10 * U + R1 = R * 10 ^ k * 10 ^ c → N1 * U = R1 * D → R1 < U * 10 → B1 = (if u = 1 then 0 else R - EL) * 10 ^ k * 10 ^ c → A1 = (if u = 2 ^ (w - 1) - 1 then 0 else EH - R) * 10 ^ k * 10 ^ c → (c = 0 → Lw = 0 ∧ U ≤ R1) →
    (c ≠ 0 → (10 ^ (c - 1) ≤ Lw ∧ Lw < 10 ^ c) ∧ ∃ r Bp Ap, R1 = r * 10 ∧ r < U ∧ B1 = Bp * 10 ∧ A1 = Ap * 10 ∧ (decide (u = 1) || fit r Bp (decide (u % 2 = 0))) = false ∧ (decide (u = 2 ^ (w - 1) - 1) || fit (U - r) Ap (decide (u % 2 = 0))) = false) → rsS w u D ten m N1 Lw c = some (dd, cc) →
    (shS (decide (u = 1)) (decide (u = 2 ^ (w - 1) - 1)) (decide (u % 2 = 0)) U m2 (decide (c = 0)) R1 B1 A1 ten (sL ++ p46 ((dl Lw c).reverse))).1 ++ ([101] ++ pwT (shS (decide (u = 1)) (decide (u = 2 ^ (w - 1) - 1)) (decide (u % 2 = 0)) U m2 (decide (c = 0)) R1 B1 A1 ten (sL ++ p46 ((dl Lw c).reverse))).2) = sL ++ fwT dd ten cc := by
  intro m
  induction m with
  | zero =>
    intro m2 c R1 N1 Lw B1 A1 _ _ _ _ _ _ _ _ hS
    exact absurd hS (by unfold rsS; simp)
  | succ m ih =>
    intro m2 c R1 N1 Lw B1 A1 hm hinv hN hR eB eA hc0 hc1 hS
    obtain ⟨m3, rfl⟩ : ∃ m3, m2 = m3 + 1 := ⟨m2 - 1, by omega⟩
    have hU : 0 < U := by rw [← eU]; exact Nat.mul_pos (by decide) (Nat.pow_pos (by decide))
    obtain ⟨s1, s2, s3, s4, s5⟩ := sh_step (c := c) (N1 := N1) (R1 := R1) (Lw := Lw) h eU eten hD hinv hN
    rw [← eB] at s4
    rw [← eA] at s5
    have hst := rs_some hS
    rw [s4, s5, s1] at hst
    have hq : R1 / U < 10 := Nat.div_lt_of_lt_mul hR
    obtain ⟨q, eq⟩ : ∃ q, R1 / U = q := ⟨_, rfl⟩
    obtain ⟨r, er⟩ : ∃ r, R1 % U = r := ⟨_, rfl⟩
    have dm := Nat.div_add_mod R1 U
    have ml := Nat.mod_lt R1 hU
    rw [eq, er] at dm
    rw [er] at ml
    rw [eq] at hq hst
    obtain ⟨ob, eob⟩ : ∃ ob, decide (u = 1) = ob := ⟨_, rfl⟩
    obtain ⟨oa, eoa⟩ : ∃ oa, decide (u = 2 ^ (w - 1) - 1) = oa := ⟨_, rfl⟩
    obtain ⟨ev, eev⟩ : ∃ ev, decide (u % 2 = 0) = ev := ⟨_, rfl⟩
    rw [eob, eoa, eev] at hc1 hst ih ⊢
    have eup : (sUf oa ev U R1 A1 && (!sDn ob ev U R1 B1 || decide (D < N1 % D + N1 % D))) = sUp ob oa ev U R1 B1 A1 := by
      unfold sUp
      rw [dec_iff s3]
    rw [eup] at hst
    have estop : sStop ob oa ev U R1 B1 A1 = (sDn ob ev U R1 B1 || sUf oa ev U R1 A1) := rfl
    unfold shS
    rcases hst with ⟨t1, t2, t3⟩ | ⟨t1, t2⟩
    · rw [if_pos (by rw [estop]; exact t1), t2, t3]
      show sL ++ p46 ((dl Lw c).reverse) ++ [sCh ob oa ev (decide (c = 0)) U R1 B1 A1] ++ ([101] ++ pwT (cond (sRoll ob oa ev (decide (c = 0)) U R1 B1 A1) (ten + 1) ten)) = _
      cases hup : sUp ob oa ev U R1 B1 A1 with
      | true =>
        have huf : sUf oa ev U R1 A1 = true := by
          unfold sUp at hup
          rw [Bool.and_eq_true] at hup
          exact hup.1
        rw [cond_true]
        by_cases c0 : c = 0
        · have hk := hc0 c0
          by_cases q9 : q = 9
          · have hroll : sRoll ob oa ev (decide (c = 0)) U R1 B1 A1 = true := by
              unfold sRoll
              rw [hup, decide_eq_true c0, eq, decide_eq_true q9]; rfl
            have hch : sCh ob oa ev (decide (c = 0)) U R1 B1 A1 = 49 := by
              unfold sCh
              rw [hroll, hup]; rfl
            rw [hroll, hch, c0, cond_true, hk.1, q9]
            show sL ++ p46 [] ++ [49] ++ ([101] ++ pwT (ten + 1)) = sL ++ fwT 10 ten 1
            rw [fw_ten (by omega), show p46 [] = [] from rfl, List.append_nil, List.append_assoc]
          · have hroll : sRoll ob oa ev (decide (c = 0)) U R1 B1 A1 = false := by
              unfold sRoll
              rw [eq, decide_eq_false q9, Bool.and_false, Bool.and_false]
            have hch : sCh ob oa ev (decide (c = 0)) U R1 B1 A1 = 48 + (q + 1) := by
              unfold sCh
              rw [hroll, hup, eq]; rfl
            rw [hroll, hch, cond_false, show Lw * 10 + q + 1 = Lw * 10 + (q + 1) from by omega, fw_dig (x := q + 1) (by omega) (fun z => (hc0 z).1) (fun z => absurd c0 z) (by omega), if_pos c0, c0]
            show sL ++ p46 [] ++ [48 + (q + 1)] ++ ([101] ++ pwT ten) = _
            rw [show p46 [] = [] from rfl, List.append_nil, List.append_assoc]
        · obtain ⟨hLw, r0, Bp, Ap, e1, e2, e3, e4, e5, e6⟩ := hc1 c0
          have q8 : q ≠ 9 := fun q9 => by
            unfold sUf at huf
            rw [er, show U - r = (U - r0) * 10 from by rw [q9] at dm; omega, e4, fit_10] at huf
            rw [huf] at e6
            exact absurd e6 (by decide)
          have hroll : sRoll ob oa ev (decide (c = 0)) U R1 B1 A1 = false := by
            unfold sRoll
            rw [decide_eq_false c0, Bool.false_and, Bool.and_false]
          have hch : sCh ob oa ev (decide (c = 0)) U R1 B1 A1 = 48 + (q + 1) := by
            unfold sCh
            rw [hroll, hup, eq]; rfl
          rw [hroll, hch, cond_false, show Lw * 10 + q + 1 = Lw * 10 + (q + 1) from by omega, fw_dig (x := q + 1) (by omega) (fun z => absurd z c0) (fun _ => hLw) (by omega), if_neg c0, List.append_assoc, List.append_assoc, List.append_assoc]
      | false =>
        have hdn : sDn ob ev U R1 B1 = true := by
          unfold sUp at hup
          cases hd : sDn ob ev U R1 B1 with
          | true => rfl
          | false =>
            rw [hd] at hup t1
            rw [Bool.false_or] at t1
            rw [t1] at hup
            exact absurd hup (by simp)
        rw [cond_false]
        have hroll : sRoll ob oa ev (decide (c = 0)) U R1 B1 A1 = false := by
          unfold sRoll
          rw [hup, Bool.false_and]
        have hch : sCh ob oa ev (decide (c = 0)) U R1 B1 A1 = 48 + q := by
          unfold sCh
          rw [hroll, hup, eq]; rfl
        have q0 : 1 ≤ q := by
          by_cases c0 : c = 0
          · rw [← eq]; exact Nat.div_pos (hc0 c0).2 hU
          · obtain ⟨hLw, r0, Bp, Ap, e1, e2, e3, e4, e5, e6⟩ := hc1 c0
            rcases Nat.eq_zero_or_pos q with z | z
            · unfold sDn at hdn
              rw [er, show r = r0 * 10 from by rw [z, Nat.mul_zero] at dm; omega, e3, fit_10] at hdn
              rw [hdn] at e5
              exact absurd e5 (by decide)
            · exact z
        rw [hroll, hch, cond_false, fw_dig (x := q) (by omega) (fun z => (hc0 z).1) (fun z => (hc1 z).1) (by omega)]
        by_cases c0 : c = 0
        · rw [if_pos c0, c0]
          show sL ++ p46 [] ++ [48 + q] ++ ([101] ++ pwT ten) = _
          rw [show p46 [] = [] from rfl, List.append_nil, List.append_assoc]
        · rw [if_neg c0, List.append_assoc, List.append_assoc, List.append_assoc]
    · rw [if_neg (by rw [estop, t1]; decide)]
      rw [Bool.or_eq_false_iff] at t1
      have hup : sUp ob oa ev U R1 B1 A1 = false := by unfold sUp; rw [t1.2, Bool.false_and]
      have hroll : sRoll ob oa ev (decide (c = 0)) U R1 B1 A1 = false := by unfold sRoll; rw [hup, Bool.false_and]
      have hch : sCh ob oa ev (decide (c = 0)) U R1 B1 A1 = 48 + q := by
        unfold sCh
        rw [hroll, hup, eq]; rfl
      have eL : sL ++ p46 ((dl Lw c).reverse) ++ [48 + q] ++ cond (decide (c = 0)) [46] [] = sL ++ p46 ((dl (Lw * 10 + q) (c + 1)).reverse) := by
        rw [dl_dig hq]
        by_cases c0 : c = 0
        · rw [decide_eq_true c0, c0]
          show sL ++ p46 [] ++ [48 + q] ++ [46] = sL ++ p46 ([] ++ [48 + q])
          rw [show p46 [] = [] from rfl, List.append_nil, List.append_assoc]; rfl
        · have hne : (dl Lw c).reverse ≠ [] := fun z => by
            have := congrArg List.length z
            rw [List.length_reverse, dl_len] at this
            exact c0 this
          rw [decide_eq_false c0, p46_app _ hne, cond_false, List.append_nil, List.append_assoc]
      rw [hch, eL]
      have eD : decide (c + 1 = 0) = false := decide_eq_false (by omega)
      have k := ih m3 (c + 1) (R1 % U * 10) (N1 % D * 10) (Lw * 10 + q) (B1 * 10) (A1 * 10) (by omega) ?_ ?_ ?_ ?_ ?_ (fun z => absurd z (by omega)) (fun _ => ⟨⟨?_, ?_⟩, R1 % U, B1, A1, rfl, ?_, rfl, rfl, t1.1, t1.2⟩) t2
      · rw [eD] at k
        exact k
      · rw [er, Nat.pow_succ, ← Nat.mul_assoc, ← hinv]
        have e1 : (Lw * 10 + q) * 10 * U = (Lw * 10 * U + U * q) * 10 := by
          rw [Nat.mul_right_comm, Nat.add_mul, Nat.mul_comm q U]
        rw [e1]
        omega
      · rw [Nat.mul_right_comm, s2, Nat.mul_right_comm]
      · rw [er]; omega
      · rw [eB, Nat.pow_succ, Nat.mul_assoc]
      · rw [eA, Nat.pow_succ, Nat.mul_assoc]
      · rw [Nat.add_sub_cancel]
        by_cases c0 : c = 0
        · have := Nat.div_pos (hc0 c0).2 hU
          rw [c0, Nat.pow_zero]; omega
        · have hLw := (hc1 c0).1.1
          have e1 : (10 : Nat) ^ c = 10 * 10 ^ (c - 1) := by rw [Nat.mul_comm, ← Nat.pow_succ, show (c - 1).succ = c from by omega]
          omega
      · rw [Nat.pow_succ]
        by_cases c0 : c = 0
        · rw [(hc0 c0).1, c0]; omega
        · have hLw := (hc1 c0).1.2
          omega
      · rw [er]; exact ml
/-- it ends -/
theorem rs_ex (h : SXp w u R EL EH) (eU : 1 * 2 ^ 120 * 10 ^ j = U) (eten : (j : Int) - k = ten) (hD : 0 < D) (hg : u ≠ 1 → R ≤ (R - EL) * 4294967296) (hUR : U ≤ R * 10 ^ k) : ∀ (m c R1 N1 Lw : Nat), c ≤ 12 → 13 ≤ c + m → Lw * 10 * U + R1 = R * 10 ^ k * 10 ^ c → N1 * U = R1 * D → ∃ dd cc, rsS w u D ten m N1 Lw c = some (dd, cc) := by
  intro m
  induction m with
  | zero => intro c R1 N1 Lw h1 h2; omega
  | succ m ih =>
    intro c R1 N1 Lw h1 h2 hinv hN
    have hU : 0 < U := by rw [← eU]; exact Nat.mul_pos (by decide) (Nat.pow_pos (by decide))
    obtain ⟨s1, s2, s3, s4, s5⟩ := sh_step (c := c) (N1 := N1) (R1 := R1) (Lw := Lw) h eU eten hD hinv hN
    unfold rsS
    by_cases z : (rR w u (Lw * 10 + N1 / D) (ten - c) || rR w u (Lw * 10 + N1 / D + 1) (ten - c)) = true
    · rw [if_pos z]; exact ⟨_, _, rfl⟩
    · rw [if_neg z]
      have hc : c < 12 := by
        rcases Nat.lt_or_ge c 12 with y | y
        · exact y
        · exfalso
          apply z
          have c12 : c = 12 := by omega
          rw [s4, Bool.or_eq_true]
          left
          unfold sDn
          by_cases u1 : u = 1
          · rw [decide_eq_true u1]; rfl
          · rw [decide_eq_false u1, Bool.false_or, if_neg u1]
            unfold fit
            have ml := Nat.mod_lt R1 hU
            have g1 := Nat.mul_le_mul_right (10 ^ k) (hg u1)
            have g2 : (R - EL) * 4294967296 * 10 ^ k ≤ (R - EL) * 10 ^ k * 10 ^ c := by
              rw [Nat.mul_right_comm]
              exact Nat.mul_le_mul_left _ (by rw [c12]; decide)
            rw [decide_eq_true (show R1 % U < (R - EL) * 10 ^ k * 10 ^ c by omega)]; rfl
      obtain ⟨q, eq⟩ : ∃ q, R1 / U = q := ⟨_, rfl⟩
      obtain ⟨r, er⟩ : ∃ r, R1 % U = r := ⟨_, rfl⟩
      have dm := Nat.div_add_mod R1 U
      rw [eq, er] at dm
      refine ih (c + 1) (R1 % U * 10) (N1 % D * 10) (Lw * 10 + N1 / D) (by omega) (by omega) ?_ ?_
      · rw [er, s1, eq, Nat.pow_succ, ← Nat.mul_assoc, ← hinv]
        have e1 : (Lw * 10 + q) * 10 * U = (Lw * 10 * U + U * q) * 10 := by
          rw [Nat.mul_right_comm, Nat.add_mul, Nat.mul_comm q U]
        rw [e1]
        omega
      · rw [Nat.mul_right_comm, s2, Nat.mul_right_comm]
end
