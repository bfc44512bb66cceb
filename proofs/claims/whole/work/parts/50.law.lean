/-! The law: its loop. -/
set_option maxHeartbeats 8000000 in
set_option maxRecDepth 100000 in
theorem lp_end {X : zX} {i cells slots L9 : Nat} {sc : Nat → Int} {h : zH} (hc : cells ≤ 601024) (hs : slots ≤ 7293034) : (zV X (PLW) cL_law 8 RL (some .boolean) 11 601024 7293034 1797 [(0, .ref 1000), (1, .ref 0), (2, .ref 47), (3, .ref 90), (4, .int (iI (i:Nat)))] [] h 91 cells slots) := by
  refine v_iconst (iI 1) dL_law_1797 rfl ?_
  refine w_ei (bz true) rfl ?_
  exact v_iret dL_law_1798 bz_ret (by omega) (by omega) rfl
set_option maxHeartbeats 8000000 in
set_option maxRecDepth 100000 in
theorem lp {X : zX} {L9 : Nat} {sc : Nat → Int} (hE : zLE X) (hSc : zSc X L9 sc) : ∀ (j t : Nat) (h : zH) (cells slots : Nat), L9 ≤ 6 * t + 6 * j → t ≤ 512 → LI h (32 * t) → cells ≤ 1000 + 2 * t → slots ≤ 20000 + 9 * t → (zV X (PLW) cL_law 8 RL (some .boolean) 11 601024 7293034 23 [(0, .ref 1000), (1, .ref 0), (2, .ref 47), (3, .ref 90), (4, .int (iI (6 * t:Nat)))] [] h 91 cells slots) := by
  have hL9 := hSc.l
  intro j
  induction j with
  | zero =>
    intro t h cells slots hj ht hI hc hs
    refine v_iload dL_law_23 rfl ?_
    refine v_aload_n dL_law_25 rfl ?_
    refine w_slen hSc (by decide) dL_law_26 ?_
    refine v_bipush (iI 6) dL_law_27 rfl ?_
    refine w_isub dL_law_29 ?_
    refine w_icmp_gt 1797 dL_law_30 (by decide) (by omega) (by omega) (fun c1 => ?_) (fun c1 => ?_)
    · exact lp_end (i := 6 * t) (L9 := L9) (sc := sc) (by omega) (by omega)
    · exact absurd c1 (by omega)
  | succ j ih =>
    intro t h cells slots hj ht hI hc hs
    obtain ⟨x0, e0⟩ : ∃ p, sc (6 * t) = p := ⟨_, rfl⟩
    have r0 := hSc.r (6 * t)
    rw [e0] at r0
    refine v_iload dL_law_23 rfl ?_
    refine v_aload_n dL_law_25 rfl ?_
    refine w_slen hSc (by decide) dL_law_26 ?_
    refine v_bipush (iI 6) dL_law_27 rfl ?_
    refine w_isub dL_law_29 ?_
    refine w_icmp_gt 1797 dL_law_30 (by decide) (by omega) (by omega) (fun c1 => ?_) (fun c1 => ?_)
    · exact lp_end (i := 6 * t) (L9 := L9) (sc := sc) (by omega) (by omega)
    · have kont : ∀ (h' : zH) (c' s' : Nat), LI h' (32 * t + 32) → c' ≤ cells + 2 → s' ≤ slots + 9 → (zV X (PLW) cL_law 8 RL (some .boolean) 11 601024 7293034 1791 [(0, .ref 1000), (1, .ref 0), (2, .ref 47), (3, .ref 90), (4, .int (iI (6 * t:Nat)))] [] h' 91 c' s') := by
        intro h' c' s' hI' hc' hs'
        refine w_iinc (lv' := [(4, .int (iI ((6 * t:Nat) + 6))), (0, .ref 1000), (1, .ref 0), (2, .ref 47), (3, .ref 90)]) dL_law_1791 rfl (by decide) rfl ?_
        refine w_sub (lv2 := [(0, .ref 1000), (1, .ref 0), (2, .ref 47), (3, .ref 90), (4, .int (iI ((6 * t:Nat) + 6)))]) [1, 2, 3, 4, 0] rfl ?_
        refine v_goto 23 dL_law_1794 (by decide) ?_
        have e1 : ((6 * t : Nat) : Int) + 6 = ((6 * (t + 1) : Nat) : Int) := by omega
        rw [e1]
        exact ih (t + 1) h' c' s' (by omega) (by omega) (by rw [show 32 * (t + 1) = 32 * t + 32 from by omega]; exact hI') (by omega) (by omega)
      refine v_aload_n dL_law_33 rfl ?_
      refine v_iload dL_law_34 rfl ?_
      refine w_sld hSc (by decide) dL_law_36 (6 * t) (by omega) (by omega) e0 ?_
      refine v_bipush (iI 31) dL_law_37 rfl ?_
      refine w_iandm dL_law_39 5 32 rfl (by decide) rfl ?_
      by_cases c9 : 25 < x0 % 32
      · refine w_tabOut 1791 dL_law_40 ⟨by omega, by omega⟩ (Or.inr c9) (by decide) ?_
        obtain ⟨wd, pt, tf, Q, qn, tc, L, th, g, hH, hM, h_90, hPL, hbb, htc, hQb⟩ := hI
        exact kont h cells slots ⟨wd, pt, tf, Q, qn, tc, L, th, g, hH, hM, h_90, hPL, hbb, htc, hQb.mono (by omega)⟩ (by omega) (by omega)
      · rcases (show x0 % 32 = 0 ∨ x0 % 32 = 1 ∨ x0 % 32 = 2 ∨ x0 % 32 = 3 ∨ x0 % 32 = 4 ∨ x0 % 32 = 5 ∨ x0 % 32 = 6 ∨ x0 % 32 = 7 ∨ x0 % 32 = 8 ∨ x0 % 32 = 9 ∨ x0 % 32 = 10 ∨ x0 % 32 = 11 ∨ x0 % 32 = 12 ∨ x0 % 32 = 13 ∨ x0 % 32 = 14 ∨ x0 % 32 = 15 ∨ x0 % 32 = 16 ∨ x0 % 32 = 17 ∨ x0 % 32 = 18 ∨ x0 % 32 = 19 ∨ x0 % 32 = 20 ∨ x0 % 32 = 21 ∨ x0 % 32 = 22 ∨ x0 % 32 = 23 ∨ x0 % 32 = 24 ∨ x0 % 32 = 25 by omega) with q0 | q1 | q2 | q3 | q4 | q5 | q6 | q7 | q8 | q9 | q10 | q11 | q12 | q13 | q14 | q15 | q16 | q17 | q18 | q19 | q20 | q21 | q22 | q23 | q24 | q25
        · refine w_tabIn 160 dL_law_40 ⟨by omega, by omega⟩ (by omega) (by omega) (by rw [q0]; rfl) (by decide) ?_
          exact c_set hE hSc (by omega) (by omega) (by omega) (by omega) hI kont
        · refine w_tabIn 220 dL_law_40 ⟨by omega, by omega⟩ (by omega) (by omega) (by rw [q1]; rfl) (by decide) ?_
          exact c_pattern hE hSc (by omega) (by omega) (by omega) (by omega) hI kont
        · refine w_tabIn 275 dL_law_40 ⟨by omega, by omega⟩ (by omega) (by omega) (by rw [q2]; rfl) (by decide) ?_
          exact c_width hE hSc (by omega) (by omega) (by omega) (by omega) hI kont
        · refine w_tabIn 331 dL_law_40 ⟨by omega, by omega⟩ (by omega) (by omega) (by rw [q3]; rfl) (by decide) ?_
          exact c_take hE hSc (by omega) (by omega) (by omega) (by omega) hI kont
        · refine w_tabIn 391 dL_law_40 ⟨by omega, by omega⟩ (by omega) (by omega) (by rw [q4]; rfl) (by decide) ?_
          exact c_ratio hE hSc (by omega) (by omega) (by omega) (by omega) hI kont
        · refine w_tabIn 515 dL_law_40 ⟨by omega, by omega⟩ (by omega) (by omega) (by rw [q5]; rfl) (by decide) ?_
          exact c_whole hE hSc (by omega) (by omega) (by omega) (by omega) hI kont
        · refine w_tabIn 570 dL_law_40 ⟨by omega, by omega⟩ (by omega) (by omega) (by rw [q6]; rfl) (by decide) ?_
          exact c_order hE hSc (by omega) (by omega) (by omega) (by omega) hI kont
        · refine w_tabIn 638 dL_law_40 ⟨by omega, by omega⟩ (by omega) (by omega) (by rw [q7]; rfl) (by decide) ?_
          exact c_add hE hSc (by omega) (by omega) (by omega) (by omega) hI kont
        · refine w_tabIn 698 dL_law_40 ⟨by omega, by omega⟩ (by omega) (by omega) (by rw [q8]; rfl) (by decide) ?_
          exact c_less hE hSc (by omega) (by omega) (by omega) (by omega) hI kont
        · refine w_tabIn 758 dL_law_40 ⟨by omega, by omega⟩ (by omega) (by omega) (by rw [q9]; rfl) (by decide) ?_
          exact c_times hE hSc (by omega) (by omega) (by omega) (by omega) hI kont
        · refine w_tabIn 818 dL_law_40 ⟨by omega, by omega⟩ (by omega) (by omega) (by rw [q10]; rfl) (by decide) ?_
          exact c_over hE hSc (by omega) (by omega) (by omega) (by omega) hI kont
        · refine w_tabIn 878 dL_law_40 ⟨by omega, by omega⟩ (by omega) (by omega) (by rw [q11]; rfl) (by decide) ?_
          exact c_fused hE hSc (by omega) (by omega) (by omega) (by omega) hI kont
        · refine w_tabIn 938 dL_law_40 ⟨by omega, by omega⟩ (by omega) (by omega) (by rw [q12]; rfl) (by decide) ?_
          exact c_root hE hSc (by omega) (by omega) (by omega) (by omega) hI kont
        · refine w_tabIn 998 dL_law_40 ⟨by omega, by omega⟩ (by omega) (by omega) (by rw [q13]; rfl) (by decide) ?_
          exact c_under hE hSc (by omega) (by omega) (by omega) (by omega) hI kont
        · refine w_tabIn 1046 dL_law_40 ⟨by omega, by omega⟩ (by omega) (by omega) (by rw [q14]; rfl) (by decide) ?_
          exact c_far hE hSc (by omega) (by omega) (by omega) (by omega) hI kont
        · refine w_tabIn 1106 dL_law_40 ⟨by omega, by omega⟩ (by omega) (by omega) (by rw [q15]; rfl) (by decide) ?_
          exact c_power hE hSc (by omega) (by omega) (by omega) (by omega) hI kont
        · refine w_tabIn 1166 dL_law_40 ⟨by omega, by omega⟩ (by omega) (by omega) (by rw [q16]; rfl) (by decide) ?_
          exact c_turn hE hSc (by omega) (by omega) (by omega) (by omega) hI kont
        · refine w_tabIn 1214 dL_law_40 ⟨by omega, by omega⟩ (by omega) (by omega) (by rw [q17]; rfl) (by decide) ?_
          exact c_clear hE hSc (by omega) (by omega) (by omega) (by omega) hI kont
        · refine w_tabIn 1250 dL_law_40 ⟨by omega, by omega⟩ (by omega) (by omega) (by rw [q18]; rfl) (by decide) ?_
          exact c_gather hE hSc (by omega) (by omega) (by omega) (by omega) hI kont
        · refine w_tabIn 1338 dL_law_40 ⟨by omega, by omega⟩ (by omega) (by omega) (by rw [q19]; rfl) (by decide) ?_
          exact c_dot hE hSc (by omega) (by omega) (by omega) (by omega) hI kont
        · refine w_tabIn 1410 dL_law_40 ⟨by omega, by omega⟩ (by omega) (by omega) (by rw [q20]; rfl) (by decide) ?_
          exact c_settle hE hSc (by omega) (by omega) (by omega) (by omega) hI kont
        · refine w_tabIn 1458 dL_law_40 ⟨by omega, by omega⟩ (by omega) (by omega) (by rw [q21]; rfl) (by decide) ?_
          exact c_image hE hSc (by omega) (by omega) (by omega) (by omega) hI kont
        · refine w_tabIn 1526 dL_law_40 ⟨by omega, by omega⟩ (by omega) (by omega) (by rw [q22]; rfl) (by decide) ?_
          exact c_feed hE hSc (by omega) (by omega) (by omega) (by omega) hI kont
        · refine w_tabIn 1626 dL_law_40 ⟨by omega, by omega⟩ (by omega) (by omega) (by rw [q23]; rfl) (by decide) ?_
          exact c_read hE hSc (by omega) (by omega) (by omega) (by omega) hI kont
        · refine w_tabIn 1682 dL_law_40 ⟨by omega, by omega⟩ (by omega) (by omega) (by rw [q24]; rfl) (by decide) ?_
          exact c_write hE hSc (by omega) (by omega) (by omega) (by omega) hI kont
        · refine w_tabIn 1766 dL_law_40 ⟨by omega, by omega⟩ (by omega) (by omega) (by rw [q25]; rfl) (by decide) ?_
          exact c_letter hE hSc (by omega) (by omega) (by omega) (by omega) hI kont
