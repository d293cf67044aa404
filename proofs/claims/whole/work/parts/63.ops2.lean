/-! wish, row, minutes, place, see, tale, count, trace -/
theorem op_minutes : lw_op_minutes RR := by
  intro t σl σm a0 hR
  obtain ⟨⟨S, F, hc, hm, hw, hb, htc, htm⟩, hi, ht, hst⟩ := id hR
  have n6 : σl 0 0 = nI (S 6) := hc.1.1
  have n7 : σl 0 1 = nI (S 7) := hc.1.2.1
  have n0 : σl 0 2 = nI (S 0) := hc.1.2.2.1
  have n4 : σl 0 3 = nI (S 4) := hc.1.2.2.2.1
  have n1 : σl 0 4 = nI (S 1) := hc.1.2.2.2.2.1
  have n2 : σl 0 5 = nI (S 2) := hc.1.2.2.2.2.2.1
  have n3 : σl 0 6 = nI (S 3) := hc.1.2.2.2.2.2.2
  have m0 : σm 1 0 = nI (S 0) := hm.1 0 (by omega) (by omega) (by omega)
  have m1 : σm 1 1 = nI (S 1) := hm.1 1 (by omega) (by omega) (by omega)
  have m2 : σm 1 2 = nI (S 2) := hm.1 2 (by omega) (by omega) (by omega)
  have m3 : σm 1 3 = nI (S 3) := hm.1 3 (by omega) (by omega) (by omega)
  have m4 : σm 1 4 = nI (S 4) := hm.1 4 (by omega) (by omega) (by omega)
  have m6 : σm 1 6 = nI (S 6) := hm.1 6 (by omega) (by omega) (by omega)
  have m7 : σm 1 7 = nI (S 7) := hm.1 7 (by omega) (by omega) (by omega)
  have bw := hw.2.1
  have b7 := hw.1 7
  unfold f_X5_minutes f_X6_minutes
  rcases ix_p a0 61 (by omega) with h | ⟨j, hj, rfl⟩
  · simp (disch := first | omega | assumption) only [ev_add, ev_mul, ev_rem, ev_sub, ev_ltT, ev_ltF, ev_leT, ev_leF, ev_eqT, ev_eqF, ev_cl, ev_in, gd_t, bd_s, lt_e, ev_of, ↓reduceIte, decide_true, true_or, or_true, ev_l0, ev_l1, ev_l2, ev_l3, ev_l4, ev_l5, ev_l6, ev_l7, ev_l8, ev_l9, ev_l10, ev_l11, ev_l12, ev_l13, ev_l14, ev_l15, ev_l16, ev_l17, ev_l18, ev_l19, ev_l20, ev_l21, ev_l22, ev_l23, ev_l24, ev_l25, ev_l26, ev_l30, ev_l31, ev_l32, ev_l37, ev_l40, ev_l41, ev_l43, ev_l48, ev_l49, ev_l51, ev_l55, ev_l57, ev_l58, ev_l60, ev_l61, ev_l79, ev_l85, ev_l91, ev_l99, ev_l100, ev_l107, ev_l115, ev_l127, ev_l140, ev_l215, ev_l220, ev_l920, ev_l9999, wi_e, show f_X6_in a0 (nI 0) (nI 60) = _ from in_f (n := 61) h (by omega) (by omega)]
    exact ⟨_, _, _, rfl, rfl, hR⟩
  · simp (disch := first | omega | assumption) only [ev_add, ev_mul, ev_rem, ev_sub, ev_ltT, ev_ltF, ev_leT, ev_leF, ev_eqT, ev_eqF, ev_cl, ev_in, gd_t, bd_s, lt_e, ev_of, ↓reduceIte, decide_true, true_or, or_true, ev_l0, ev_l1, ev_l2, ev_l3, ev_l4, ev_l5, ev_l6, ev_l7, ev_l8, ev_l9, ev_l10, ev_l11, ev_l12, ev_l13, ev_l14, ev_l15, ev_l16, ev_l17, ev_l18, ev_l19, ev_l20, ev_l21, ev_l22, ev_l23, ev_l24, ev_l25, ev_l26, ev_l30, ev_l31, ev_l32, ev_l37, ev_l40, ev_l41, ev_l43, ev_l48, ev_l49, ev_l51, ev_l55, ev_l57, ev_l58, ev_l60, ev_l61, ev_l79, ev_l85, ev_l91, ev_l99, ev_l100, ev_l107, ev_l115, ev_l127, ev_l140, ev_l215, ev_l220, ev_l920, ev_l9999, wi_e, show f_X6_in (nI j) (nI 0) (nI 60) = _ from in_t (n := 61) hj (by omega), n7, m7]
    by_cases h9 : S 7 + j ≤ 9999
    · simp (disch := first | omega | assumption) only [ev_add, ev_mul, ev_rem, ev_sub, ev_ltT, ev_ltF, ev_leT, ev_leF, ev_eqT, ev_eqF, ev_cl, ev_in, gd_t, bd_s, lt_e, ev_of, ↓reduceIte, decide_true, true_or, or_true, ev_l0, ev_l1, ev_l2, ev_l3, ev_l4, ev_l5, ev_l6, ev_l7, ev_l8, ev_l9, ev_l10, ev_l11, ev_l12, ev_l13, ev_l14, ev_l15, ev_l16, ev_l17, ev_l18, ev_l19, ev_l20, ev_l21, ev_l22, ev_l23, ev_l24, ev_l25, ev_l26, ev_l30, ev_l31, ev_l32, ev_l37, ev_l40, ev_l41, ev_l43, ev_l48, ev_l49, ev_l51, ev_l55, ev_l57, ev_l58, ev_l60, ev_l61, ev_l79, ev_l85, ev_l91, ev_l99, ev_l100, ev_l107, ev_l115, ev_l127, ev_l140, ev_l215, ev_l220, ev_l920, ev_l9999, n7, m7, mu_s]
      refine ⟨_, _, _, rfl, rfl, RR_new S (upN S 7 (S 7 + j)) hi ht hst hw hb htc htm ?_ ?_ ?_ ⟨?_, ?_, ?_, ?_⟩ ?_ ?_ ?_⟩
      · simp (disch := omega) only [upN_n]
      · intro k h1 h2
        simp (disch := omega) only [mu_n]
      · refine ⟨fun j hj => ?_, fun i hi => ?_⟩
        all_goals (simp (disch := omega) only [mu_a, mu_n])
      · rfl
      · rfl
      · rfl
      · rfl
      · refine ⟨⟨?_, ?_, ?_, ?_, ?_, ?_, ?_⟩, fun p hp => ⟨?_, ?_, ?_⟩, fun v hv => ⟨⟨?_, ?_, ?_, ?_, ?_⟩, fun j hj => ?_⟩, fun i hi => ?_, fun i hi => ⟨?_, ?_⟩, fun i hi => ⟨?_, ?_, ?_⟩⟩
        all_goals (try simp only [mu_v, upN, and_self, true_and, and_true, false_and, and_false, ↓reduceIte, eq_self, Nat.reduceEqDiff, Nat.add_left_cancel_iff])
        all_goals (repeat' split)
        all_goals first | rfl | omega | exact hc.1.1 | exact hc.1.2.1 | exact hc.1.2.2.1 | exact hc.1.2.2.2.1 | exact hc.1.2.2.2.2.1 | exact hc.1.2.2.2.2.2.1 | exact hc.1.2.2.2.2.2.2 | exact (hc.2.1 p hp).1 | exact (hc.2.1 p hp).2.1 | exact (hc.2.1 p hp).2.2 | exact (hc.2.2.1 v hv).1.1 | exact (hc.2.2.1 v hv).1.2.1 | exact (hc.2.2.1 v hv).1.2.2.1 | exact (hc.2.2.1 v hv).1.2.2.2.1 | exact (hc.2.2.1 v hv).1.2.2.2.2 | exact (hc.2.2.1 v hv).2 j hj | exact hc.2.2.2.1 i hi | exact (hc.2.2.2.2.1 i hi).1 | exact (hc.2.2.2.2.1 i hi).2 | exact (hc.2.2.2.2.2 i hi).1 | exact (hc.2.2.2.2.2 i hi).2.1 | exact (hc.2.2.2.2.2 i hi).2.2
      · refine ⟨fun k hk h5 hs => ?_, ?_, fun p hp => ?_⟩
        all_goals (try simp only [mu_v, upN, and_self, true_and, and_true, false_and, and_false, ↓reduceIte, eq_self, Nat.reduceEqDiff, Nat.add_left_cancel_iff])
        all_goals (repeat' split)
        all_goals first | rfl | omega | exact hm.1 k hk h5 hs | exact hm.2.1 | exact hm.2.2 p hp
      · refine ⟨fun k => ?_, ⟨?_, ?_, ?_, ?_, ?_, ?_, ?_, ?_⟩, fun p hp => ⟨?_, fun hq => ?_, fun hq => ?_, ?_⟩, fun v hv => ⟨?_, ?_, ?_, ?_, ?_, fun j hj => ?_⟩, fun i hi => ?_, fun i hi => ⟨?_, ?_⟩, fun i hi => ⟨?_, ?_, ?_⟩⟩
        all_goals (try simp (disch := omega) only [upN_s, upN_n] at *)
        all_goals (try simp only [upN, and_self, true_and, and_true, false_and, and_false, ↓reduceIte, eq_self])
        all_goals (repeat' split)
        all_goals first | omega | exact hw.1 _ | (have z := hw.2.1; omega) | (have z := hw.2.2.1 p hp; have z2 := hw.2.1; omega) | (have z := hw.2.2.2.1 v (by omega); have z2 := hw.2.1; first | omega | (have z3 := z.2.2.2.2.2 j hj; omega)) | (have z := hw.2.2.2.2.1 i (by omega); omega) | (have z := hw.2.2.2.2.2.1 i (by omega); omega) | (have z := hw.2.2.2.2.2.2 i (by omega); omega)
    · simp (disch := first | omega | assumption) only [ev_add, ev_mul, ev_rem, ev_sub, ev_ltT, ev_ltF, ev_leT, ev_leF, ev_eqT, ev_eqF, ev_cl, ev_in, gd_t, bd_s, lt_e, ev_of, ↓reduceIte, decide_true, true_or, or_true, ev_l0, ev_l1, ev_l2, ev_l3, ev_l4, ev_l5, ev_l6, ev_l7, ev_l8, ev_l9, ev_l10, ev_l11, ev_l12, ev_l13, ev_l14, ev_l15, ev_l16, ev_l17, ev_l18, ev_l19, ev_l20, ev_l21, ev_l22, ev_l23, ev_l24, ev_l25, ev_l26, ev_l30, ev_l31, ev_l32, ev_l37, ev_l40, ev_l41, ev_l43, ev_l48, ev_l49, ev_l51, ev_l55, ev_l57, ev_l58, ev_l60, ev_l61, ev_l79, ev_l85, ev_l91, ev_l99, ev_l100, ev_l107, ev_l115, ev_l127, ev_l140, ev_l215, ev_l220, ev_l920, ev_l9999]
      exact ⟨_, _, _, rfl, rfl, hR⟩
theorem op_wish : lw_op_wish RR := by
  intro t σl σm a0 a1 hR
  obtain ⟨⟨S, F, hc, hm, hw, hb, htc, htm⟩, hi, ht, hst⟩ := id hR
  have n6 : σl 0 0 = nI (S 6) := hc.1.1
  have n7 : σl 0 1 = nI (S 7) := hc.1.2.1
  have n0 : σl 0 2 = nI (S 0) := hc.1.2.2.1
  have n4 : σl 0 3 = nI (S 4) := hc.1.2.2.2.1
  have n1 : σl 0 4 = nI (S 1) := hc.1.2.2.2.2.1
  have n2 : σl 0 5 = nI (S 2) := hc.1.2.2.2.2.2.1
  have n3 : σl 0 6 = nI (S 3) := hc.1.2.2.2.2.2.2
  have m0 : σm 1 0 = nI (S 0) := hm.1 0 (by omega) (by omega) (by omega)
  have m1 : σm 1 1 = nI (S 1) := hm.1 1 (by omega) (by omega) (by omega)
  have m2 : σm 1 2 = nI (S 2) := hm.1 2 (by omega) (by omega) (by omega)
  have m3 : σm 1 3 = nI (S 3) := hm.1 3 (by omega) (by omega) (by omega)
  have m4 : σm 1 4 = nI (S 4) := hm.1 4 (by omega) (by omega) (by omega)
  have m6 : σm 1 6 = nI (S 6) := hm.1 6 (by omega) (by omega) (by omega)
  have m7 : σm 1 7 = nI (S 7) := hm.1 7 (by omega) (by omega) (by omega)
  have bw := hw.2.1
  have b7 := hw.1 7
  unfold f_X5_wish f_X6_wish
  rcases ix_p a0 (S 0) (by omega) with h | ⟨v, hv, rfl⟩
  · simp (disch := first | omega | assumption) only [ev_add, ev_mul, ev_rem, ev_sub, ev_ltT, ev_ltF, ev_leT, ev_leF, ev_eqT, ev_eqF, ev_cl, ev_in, gd_t, bd_s, lt_e, ev_of, ↓reduceIte, decide_true, true_or, or_true, ev_l0, ev_l1, ev_l2, ev_l3, ev_l4, ev_l5, ev_l6, ev_l7, ev_l8, ev_l9, ev_l10, ev_l11, ev_l12, ev_l13, ev_l14, ev_l15, ev_l16, ev_l17, ev_l18, ev_l19, ev_l20, ev_l21, ev_l22, ev_l23, ev_l24, ev_l25, ev_l26, ev_l30, ev_l31, ev_l32, ev_l37, ev_l40, ev_l41, ev_l43, ev_l48, ev_l49, ev_l51, ev_l55, ev_l57, ev_l58, ev_l60, ev_l61, ev_l79, ev_l85, ev_l91, ev_l99, ev_l100, ev_l107, ev_l115, ev_l127, ev_l140, ev_l215, ev_l220, ev_l920, ev_l9999, hv_f n0 h, iv_f m0 (by omega) h]
    exact ⟨_, _, _, rfl, rfl, hR⟩
  · have e1 := (hc.2.2.1 v (by omega)).1.2.2.2.1
    have e2 := hm.1 (49 + v) (by omega) (by omega) (by omega)
    simp (disch := first | omega | assumption) only [ev_add, ev_mul, ev_rem, ev_sub, ev_ltT, ev_ltF, ev_leT, ev_leF, ev_eqT, ev_eqF, ev_cl, ev_in, gd_t, bd_s, lt_e, ev_of, ↓reduceIte, decide_true, true_or, or_true, ev_l0, ev_l1, ev_l2, ev_l3, ev_l4, ev_l5, ev_l6, ev_l7, ev_l8, ev_l9, ev_l10, ev_l11, ev_l12, ev_l13, ev_l14, ev_l15, ev_l16, ev_l17, ev_l18, ev_l19, ev_l20, ev_l21, ev_l22, ev_l23, ev_l24, ev_l25, ev_l26, ev_l30, ev_l31, ev_l32, ev_l37, ev_l40, ev_l41, ev_l43, ev_l48, ev_l49, ev_l51, ev_l55, ev_l57, ev_l58, ev_l60, ev_l61, ev_l79, ev_l85, ev_l91, ev_l99, ev_l100, ev_l107, ev_l115, ev_l127, ev_l140, ev_l215, ev_l220, ev_l920, ev_l9999, hv_t n0 hv (by omega), iv_t m0 hv (by omega), ll8]
    rcases ix_p a1 2 (by omega) with h | ⟨n, hn, rfl⟩
    · simp (disch := first | omega | assumption) only [ev_add, ev_mul, ev_rem, ev_sub, ev_ltT, ev_ltF, ev_leT, ev_leF, ev_eqT, ev_eqF, ev_cl, ev_in, gd_t, bd_s, lt_e, ev_of, ↓reduceIte, decide_true, true_or, or_true, ev_l0, ev_l1, ev_l2, ev_l3, ev_l4, ev_l5, ev_l6, ev_l7, ev_l8, ev_l9, ev_l10, ev_l11, ev_l12, ev_l13, ev_l14, ev_l15, ev_l16, ev_l17, ev_l18, ev_l19, ev_l20, ev_l21, ev_l22, ev_l23, ev_l24, ev_l25, ev_l26, ev_l30, ev_l31, ev_l32, ev_l37, ev_l40, ev_l41, ev_l43, ev_l48, ev_l49, ev_l51, ev_l55, ev_l57, ev_l58, ev_l60, ev_l61, ev_l79, ev_l85, ev_l91, ev_l99, ev_l100, ev_l107, ev_l115, ev_l127, ev_l140, ev_l215, ev_l220, ev_l920, ev_l9999, wi_e, show f_X6_in a1 (nI 0) (nI 1) = _ from in_f (n := 2) h (by omega) (by omega)]
      exact ⟨_, _, _, rfl, rfl, hR⟩
    · simp (disch := first | omega | assumption) only [ev_add, ev_mul, ev_rem, ev_sub, ev_ltT, ev_ltF, ev_leT, ev_leF, ev_eqT, ev_eqF, ev_cl, ev_in, gd_t, bd_s, lt_e, ev_of, ↓reduceIte, decide_true, true_or, or_true, ev_l0, ev_l1, ev_l2, ev_l3, ev_l4, ev_l5, ev_l6, ev_l7, ev_l8, ev_l9, ev_l10, ev_l11, ev_l12, ev_l13, ev_l14, ev_l15, ev_l16, ev_l17, ev_l18, ev_l19, ev_l20, ev_l21, ev_l22, ev_l23, ev_l24, ev_l25, ev_l26, ev_l30, ev_l31, ev_l32, ev_l37, ev_l40, ev_l41, ev_l43, ev_l48, ev_l49, ev_l51, ev_l55, ev_l57, ev_l58, ev_l60, ev_l61, ev_l79, ev_l85, ev_l91, ev_l99, ev_l100, ev_l107, ev_l115, ev_l127, ev_l140, ev_l215, ev_l220, ev_l920, ev_l9999, wi_e, show f_X6_in (nI n) (nI 0) (nI 1) = _ from in_t (n := 2) hn (by omega), e1, e2]
      refine ⟨_, _, _, rfl, rfl, RR_new S (upN S (49 + v) n) hi ht hst hw hb htc htm ?_ ?_ ?_ ⟨?_, ?_, ?_, ?_⟩ ?_ ?_ ?_⟩
      · simp (disch := omega) only [upN_n]
      · intro k h1 h2
        simp (disch := omega) only [mu_n]
      · refine ⟨fun j hj => ?_, fun i hi => ?_⟩
        all_goals (simp (disch := omega) only [mu_a, mu_n])
      · rfl
      · rfl
      · rfl
      · rfl
      · refine ⟨⟨?_, ?_, ?_, ?_, ?_, ?_, ?_⟩, fun p hp => ⟨?_, ?_, ?_⟩, fun v hv => ⟨⟨?_, ?_, ?_, ?_, ?_⟩, fun j hj => ?_⟩, fun i hi => ?_, fun i hi => ⟨?_, ?_⟩, fun i hi => ⟨?_, ?_, ?_⟩⟩
        all_goals (try simp only [mu_v, upN, and_self, true_and, and_true, false_and, and_false, ↓reduceIte, eq_self, Nat.reduceEqDiff, Nat.add_left_cancel_iff])
        all_goals (repeat' split)
        all_goals first | rfl | omega | exact hc.1.1 | exact hc.1.2.1 | exact hc.1.2.2.1 | exact hc.1.2.2.2.1 | exact hc.1.2.2.2.2.1 | exact hc.1.2.2.2.2.2.1 | exact hc.1.2.2.2.2.2.2 | exact (hc.2.1 p hp).1 | exact (hc.2.1 p hp).2.1 | exact (hc.2.1 p hp).2.2 | exact (hc.2.2.1 v hv).1.1 | exact (hc.2.2.1 v hv).1.2.1 | exact (hc.2.2.1 v hv).1.2.2.1 | exact (hc.2.2.1 v hv).1.2.2.2.1 | exact (hc.2.2.1 v hv).1.2.2.2.2 | exact (hc.2.2.1 v hv).2 j hj | exact hc.2.2.2.1 i hi | exact (hc.2.2.2.2.1 i hi).1 | exact (hc.2.2.2.2.1 i hi).2 | exact (hc.2.2.2.2.2 i hi).1 | exact (hc.2.2.2.2.2 i hi).2.1 | exact (hc.2.2.2.2.2 i hi).2.2
      · refine ⟨fun k hk h5 hs => ?_, ?_, fun p hp => ?_⟩
        all_goals (try simp only [mu_v, upN, and_self, true_and, and_true, false_and, and_false, ↓reduceIte, eq_self, Nat.reduceEqDiff, Nat.add_left_cancel_iff])
        all_goals (repeat' split)
        all_goals first | rfl | omega | exact hm.1 k hk h5 hs | exact hm.2.1 | exact hm.2.2 p hp
      · refine ⟨fun k => ?_, ⟨?_, ?_, ?_, ?_, ?_, ?_, ?_, ?_⟩, fun p hp => ⟨?_, fun hq => ?_, fun hq => ?_, ?_⟩, fun v hv => ⟨?_, ?_, ?_, ?_, ?_, fun j hj => ?_⟩, fun i hi => ?_, fun i hi => ⟨?_, ?_⟩, fun i hi => ⟨?_, ?_, ?_⟩⟩
        all_goals (try simp (disch := omega) only [upN_s, upN_n] at *)
        all_goals (try simp only [upN, and_self, true_and, and_true, false_and, and_false, ↓reduceIte, eq_self])
        all_goals (repeat' split)
        all_goals first | omega | exact hw.1 _ | (have z := hw.2.1; omega) | (have z := hw.2.2.1 p hp; have z2 := hw.2.1; omega) | (have z := hw.2.2.2.1 v (by omega); have z2 := hw.2.1; first | omega | (have z3 := z.2.2.2.2.2 j hj; omega)) | (have z := hw.2.2.2.2.1 i (by omega); omega) | (have z := hw.2.2.2.2.2.1 i (by omega); omega) | (have z := hw.2.2.2.2.2.2 i (by omega); omega)
theorem op_row : lw_op_row RR := by
  intro t σl σm a0 a1 a2 hR
  obtain ⟨⟨S, F, hc, hm, hw, hb, htc, htm⟩, hi, ht, hst⟩ := id hR
  have n6 : σl 0 0 = nI (S 6) := hc.1.1
  have n7 : σl 0 1 = nI (S 7) := hc.1.2.1
  have n0 : σl 0 2 = nI (S 0) := hc.1.2.2.1
  have n4 : σl 0 3 = nI (S 4) := hc.1.2.2.2.1
  have n1 : σl 0 4 = nI (S 1) := hc.1.2.2.2.2.1
  have n2 : σl 0 5 = nI (S 2) := hc.1.2.2.2.2.2.1
  have n3 : σl 0 6 = nI (S 3) := hc.1.2.2.2.2.2.2
  have m0 : σm 1 0 = nI (S 0) := hm.1 0 (by omega) (by omega) (by omega)
  have m1 : σm 1 1 = nI (S 1) := hm.1 1 (by omega) (by omega) (by omega)
  have m2 : σm 1 2 = nI (S 2) := hm.1 2 (by omega) (by omega) (by omega)
  have m3 : σm 1 3 = nI (S 3) := hm.1 3 (by omega) (by omega) (by omega)
  have m4 : σm 1 4 = nI (S 4) := hm.1 4 (by omega) (by omega) (by omega)
  have m6 : σm 1 6 = nI (S 6) := hm.1 6 (by omega) (by omega) (by omega)
  have m7 : σm 1 7 = nI (S 7) := hm.1 7 (by omega) (by omega) (by omega)
  have bw := hw.2.1
  have b7 := hw.1 7
  unfold f_X5_row f_X6_row
  rcases ix_p a0 (S 0) (by omega) with h | ⟨v, hv, rfl⟩
  · simp (disch := first | omega | assumption) only [ev_add, ev_mul, ev_rem, ev_sub, ev_ltT, ev_ltF, ev_leT, ev_leF, ev_eqT, ev_eqF, ev_cl, ev_in, gd_t, bd_s, lt_e, ev_of, ↓reduceIte, decide_true, true_or, or_true, ev_l0, ev_l1, ev_l2, ev_l3, ev_l4, ev_l5, ev_l6, ev_l7, ev_l8, ev_l9, ev_l10, ev_l11, ev_l12, ev_l13, ev_l14, ev_l15, ev_l16, ev_l17, ev_l18, ev_l19, ev_l20, ev_l21, ev_l22, ev_l23, ev_l24, ev_l25, ev_l26, ev_l30, ev_l31, ev_l32, ev_l37, ev_l40, ev_l41, ev_l43, ev_l48, ev_l49, ev_l51, ev_l55, ev_l57, ev_l58, ev_l60, ev_l61, ev_l79, ev_l85, ev_l91, ev_l99, ev_l100, ev_l107, ev_l115, ev_l127, ev_l140, ev_l215, ev_l220, ev_l920, ev_l9999, hv_f n0 h, iv_f m0 (by omega) h]
    exact ⟨_, _, _, rfl, rfl, hR⟩
  · simp (disch := first | omega | assumption) only [ev_add, ev_mul, ev_rem, ev_sub, ev_ltT, ev_ltF, ev_leT, ev_leF, ev_eqT, ev_eqF, ev_cl, ev_in, gd_t, bd_s, lt_e, ev_of, ↓reduceIte, decide_true, true_or, or_true, ev_l0, ev_l1, ev_l2, ev_l3, ev_l4, ev_l5, ev_l6, ev_l7, ev_l8, ev_l9, ev_l10, ev_l11, ev_l12, ev_l13, ev_l14, ev_l15, ev_l16, ev_l17, ev_l18, ev_l19, ev_l20, ev_l21, ev_l22, ev_l23, ev_l24, ev_l25, ev_l26, ev_l30, ev_l31, ev_l32, ev_l37, ev_l40, ev_l41, ev_l43, ev_l48, ev_l49, ev_l51, ev_l55, ev_l57, ev_l58, ev_l60, ev_l61, ev_l79, ev_l85, ev_l91, ev_l99, ev_l100, ev_l107, ev_l115, ev_l127, ev_l140, ev_l215, ev_l220, ev_l920, ev_l9999, hv_t n0 hv (by omega), iv_t m0 hv (by omega), ll8]
    rcases ix_p a1 3 (by omega) with h | ⟨k, hk, rfl⟩
    · simp (disch := first | omega | assumption) only [ev_add, ev_mul, ev_rem, ev_sub, ev_ltT, ev_ltF, ev_leT, ev_leF, ev_eqT, ev_eqF, ev_cl, ev_in, gd_t, bd_s, lt_e, ev_of, ↓reduceIte, decide_true, true_or, or_true, ev_l0, ev_l1, ev_l2, ev_l3, ev_l4, ev_l5, ev_l6, ev_l7, ev_l8, ev_l9, ev_l10, ev_l11, ev_l12, ev_l13, ev_l14, ev_l15, ev_l16, ev_l17, ev_l18, ev_l19, ev_l20, ev_l21, ev_l22, ev_l23, ev_l24, ev_l25, ev_l26, ev_l30, ev_l31, ev_l32, ev_l37, ev_l40, ev_l41, ev_l43, ev_l48, ev_l49, ev_l51, ev_l55, ev_l57, ev_l58, ev_l60, ev_l61, ev_l79, ev_l85, ev_l91, ev_l99, ev_l100, ev_l107, ev_l115, ev_l127, ev_l140, ev_l215, ev_l220, ev_l920, ev_l9999, wi_e, show f_X6_in a1 (nI 0) (nI 2) = _ from in_f (n := 3) h (by omega) (by omega)]
      exact ⟨_, _, _, rfl, rfl, hR⟩
    · simp (disch := first | omega | assumption) only [ev_add, ev_mul, ev_rem, ev_sub, ev_ltT, ev_ltF, ev_leT, ev_leF, ev_eqT, ev_eqF, ev_cl, ev_in, gd_t, bd_s, lt_e, ev_of, ↓reduceIte, decide_true, true_or, or_true, ev_l0, ev_l1, ev_l2, ev_l3, ev_l4, ev_l5, ev_l6, ev_l7, ev_l8, ev_l9, ev_l10, ev_l11, ev_l12, ev_l13, ev_l14, ev_l15, ev_l16, ev_l17, ev_l18, ev_l19, ev_l20, ev_l21, ev_l22, ev_l23, ev_l24, ev_l25, ev_l26, ev_l30, ev_l31, ev_l32, ev_l37, ev_l40, ev_l41, ev_l43, ev_l48, ev_l49, ev_l51, ev_l55, ev_l57, ev_l58, ev_l60, ev_l61, ev_l79, ev_l85, ev_l91, ev_l99, ev_l100, ev_l107, ev_l115, ev_l127, ev_l140, ev_l215, ev_l220, ev_l920, ev_l9999, wi_e, show f_X6_in (nI k) (nI 0) (nI 2) = _ from in_t (n := 3) hk (by omega)]
      rcases ix_p a2 (S 6) (by omega) with h | ⟨p, hp, rfl⟩
      · simp (disch := first | omega | assumption) only [ev_add, ev_mul, ev_rem, ev_sub, ev_ltT, ev_ltF, ev_leT, ev_leF, ev_eqT, ev_eqF, ev_cl, ev_in, gd_t, bd_s, lt_e, ev_of, ↓reduceIte, decide_true, true_or, or_true, ev_l0, ev_l1, ev_l2, ev_l3, ev_l4, ev_l5, ev_l6, ev_l7, ev_l8, ev_l9, ev_l10, ev_l11, ev_l12, ev_l13, ev_l14, ev_l15, ev_l16, ev_l17, ev_l18, ev_l19, ev_l20, ev_l21, ev_l22, ev_l23, ev_l24, ev_l25, ev_l26, ev_l30, ev_l31, ev_l32, ev_l37, ev_l40, ev_l41, ev_l43, ev_l48, ev_l49, ev_l51, ev_l55, ev_l57, ev_l58, ev_l60, ev_l61, ev_l79, ev_l85, ev_l91, ev_l99, ev_l100, ev_l107, ev_l115, ev_l127, ev_l140, ev_l215, ev_l220, ev_l920, ev_l9999, hp_f n6 h, ip_f m6 (by omega) h]
        exact ⟨_, _, _, rfl, rfl, hR⟩
      · have e1 := (hc.2.2.1 v (by omega)).1.1
        have e2 := hm.1 (31 + v) (by omega) (by omega) (by omega)
        have e3 := (hc.2.2.1 v (by omega)).2 k hk
        have e4 := hm.1 (61 + 3 * v + k) (by omega) (by omega) (by omega)
        have bk := hw.1 (31 + v)
        simp (disch := first | omega | assumption) only [ev_add, ev_mul, ev_rem, ev_sub, ev_ltT, ev_ltF, ev_leT, ev_leF, ev_eqT, ev_eqF, ev_cl, ev_in, gd_t, bd_s, lt_e, ev_of, ↓reduceIte, decide_true, true_or, or_true, ev_l0, ev_l1, ev_l2, ev_l3, ev_l4, ev_l5, ev_l6, ev_l7, ev_l8, ev_l9, ev_l10, ev_l11, ev_l12, ev_l13, ev_l14, ev_l15, ev_l16, ev_l17, ev_l18, ev_l19, ev_l20, ev_l21, ev_l22, ev_l23, ev_l24, ev_l25, ev_l26, ev_l30, ev_l31, ev_l32, ev_l37, ev_l40, ev_l41, ev_l43, ev_l48, ev_l49, ev_l51, ev_l55, ev_l57, ev_l58, ev_l60, ev_l61, ev_l79, ev_l85, ev_l91, ev_l99, ev_l100, ev_l107, ev_l115, ev_l127, ev_l140, ev_l215, ev_l220, ev_l920, ev_l9999, hp_t n6 hp (by omega), ip_t m6 hp (by omega), e1, e2]
        by_cases h6 : S (31 + v) = 6
        · simp (disch := first | omega | assumption) only [ev_add, ev_mul, ev_rem, ev_sub, ev_ltT, ev_ltF, ev_leT, ev_leF, ev_eqT, ev_eqF, ev_cl, ev_in, gd_t, bd_s, lt_e, ev_of, ↓reduceIte, decide_true, true_or, or_true, ev_l0, ev_l1, ev_l2, ev_l3, ev_l4, ev_l5, ev_l6, ev_l7, ev_l8, ev_l9, ev_l10, ev_l11, ev_l12, ev_l13, ev_l14, ev_l15, ev_l16, ev_l17, ev_l18, ev_l19, ev_l20, ev_l21, ev_l22, ev_l23, ev_l24, ev_l25, ev_l26, ev_l30, ev_l31, ev_l32, ev_l37, ev_l40, ev_l41, ev_l43, ev_l48, ev_l49, ev_l51, ev_l55, ev_l57, ev_l58, ev_l60, ev_l61, ev_l79, ev_l85, ev_l91, ev_l99, ev_l100, ev_l107, ev_l115, ev_l127, ev_l140, ev_l215, ev_l220, ev_l920, ev_l9999, e3, e4, h6]
          refine ⟨_, _, _, rfl, rfl, RR_new S (upN S (61 + 3 * v + k) p) hi ht hst hw hb htc htm ?_ ?_ ?_ ⟨?_, ?_, ?_, ?_⟩ ?_ ?_ ?_⟩
          · simp (disch := omega) only [upN_n]
          · intro k h1 h2
            simp (disch := omega) only [mu_n]
          · refine ⟨fun j hj => ?_, fun i hi => ?_⟩
            all_goals (simp (disch := omega) only [mu_a, mu_n])
          · rfl
          · rfl
          · rfl
          · rfl
          · refine ⟨⟨?_, ?_, ?_, ?_, ?_, ?_, ?_⟩, fun p hp => ⟨?_, ?_, ?_⟩, fun v hv => ⟨⟨?_, ?_, ?_, ?_, ?_⟩, fun j hj => ?_⟩, fun i hi => ?_, fun i hi => ⟨?_, ?_⟩, fun i hi => ⟨?_, ?_, ?_⟩⟩
            all_goals (try simp only [mu_v, upN, and_self, true_and, and_true, false_and, and_false, ↓reduceIte, eq_self, Nat.reduceEqDiff, Nat.add_left_cancel_iff])
            all_goals (repeat' split)
            all_goals first | rfl | omega | exact hc.1.1 | exact hc.1.2.1 | exact hc.1.2.2.1 | exact hc.1.2.2.2.1 | exact hc.1.2.2.2.2.1 | exact hc.1.2.2.2.2.2.1 | exact hc.1.2.2.2.2.2.2 | exact (hc.2.1 p hp).1 | exact (hc.2.1 p hp).2.1 | exact (hc.2.1 p hp).2.2 | exact (hc.2.2.1 v hv).1.1 | exact (hc.2.2.1 v hv).1.2.1 | exact (hc.2.2.1 v hv).1.2.2.1 | exact (hc.2.2.1 v hv).1.2.2.2.1 | exact (hc.2.2.1 v hv).1.2.2.2.2 | exact (hc.2.2.1 v hv).2 j hj | exact hc.2.2.2.1 i hi | exact (hc.2.2.2.2.1 i hi).1 | exact (hc.2.2.2.2.1 i hi).2 | exact (hc.2.2.2.2.2 i hi).1 | exact (hc.2.2.2.2.2 i hi).2.1 | exact (hc.2.2.2.2.2 i hi).2.2
          · refine ⟨fun k hk h5 hs => ?_, ?_, fun p hp => ?_⟩
            all_goals (try simp only [mu_v, upN, and_self, true_and, and_true, false_and, and_false, ↓reduceIte, eq_self, Nat.reduceEqDiff, Nat.add_left_cancel_iff])
            all_goals (repeat' split)
            all_goals first | rfl | omega | exact hm.1 k hk h5 hs | exact hm.2.1 | exact hm.2.2 p hp
          · refine ⟨fun k => ?_, ⟨?_, ?_, ?_, ?_, ?_, ?_, ?_, ?_⟩, fun p hp => ⟨?_, fun hq => ?_, fun hq => ?_, ?_⟩, fun v hv => ⟨?_, ?_, ?_, ?_, ?_, fun j hj => ?_⟩, fun i hi => ?_, fun i hi => ⟨?_, ?_⟩, fun i hi => ⟨?_, ?_, ?_⟩⟩
            all_goals (try simp (disch := omega) only [upN_s, upN_n] at *)
            all_goals (try simp only [upN, and_self, true_and, and_true, false_and, and_false, ↓reduceIte, eq_self])
            all_goals (repeat' split)
            all_goals first | omega | exact hw.1 _ | (have z := hw.2.1; omega) | (have z := hw.2.2.1 p hp; have z2 := hw.2.1; omega) | (have z := hw.2.2.2.1 v (by omega); have z2 := hw.2.1; first | omega | (have z3 := z.2.2.2.2.2 j hj; omega)) | (have z := hw.2.2.2.2.1 i (by omega); omega) | (have z := hw.2.2.2.2.2.1 i (by omega); omega) | (have z := hw.2.2.2.2.2.2 i (by omega); omega)
        · simp (disch := first | omega | assumption) only [ev_add, ev_mul, ev_rem, ev_sub, ev_ltT, ev_ltF, ev_leT, ev_leF, ev_eqT, ev_eqF, ev_cl, ev_in, gd_t, bd_s, lt_e, ev_of, ↓reduceIte, decide_true, true_or, or_true, ev_l0, ev_l1, ev_l2, ev_l3, ev_l4, ev_l5, ev_l6, ev_l7, ev_l8, ev_l9, ev_l10, ev_l11, ev_l12, ev_l13, ev_l14, ev_l15, ev_l16, ev_l17, ev_l18, ev_l19, ev_l20, ev_l21, ev_l22, ev_l23, ev_l24, ev_l25, ev_l26, ev_l30, ev_l31, ev_l32, ev_l37, ev_l40, ev_l41, ev_l43, ev_l48, ev_l49, ev_l51, ev_l55, ev_l57, ev_l58, ev_l60, ev_l61, ev_l79, ev_l85, ev_l91, ev_l99, ev_l100, ev_l107, ev_l115, ev_l127, ev_l140, ev_l215, ev_l220, ev_l920, ev_l9999]
          exact ⟨_, _, _, rfl, rfl, hR⟩
theorem op_see : lw_op_see RR := by
  intro t σl σm a0 a1 hR
  obtain ⟨⟨S, F, hc, hm, hw, hb, htc, htm⟩, hi, ht, hst⟩ := id hR
  have n6 : σl 0 0 = nI (S 6) := hc.1.1
  have n7 : σl 0 1 = nI (S 7) := hc.1.2.1
  have n0 : σl 0 2 = nI (S 0) := hc.1.2.2.1
  have n4 : σl 0 3 = nI (S 4) := hc.1.2.2.2.1
  have n1 : σl 0 4 = nI (S 1) := hc.1.2.2.2.2.1
  have n2 : σl 0 5 = nI (S 2) := hc.1.2.2.2.2.2.1
  have n3 : σl 0 6 = nI (S 3) := hc.1.2.2.2.2.2.2
  have m0 : σm 1 0 = nI (S 0) := hm.1 0 (by omega) (by omega) (by omega)
  have m1 : σm 1 1 = nI (S 1) := hm.1 1 (by omega) (by omega) (by omega)
  have m2 : σm 1 2 = nI (S 2) := hm.1 2 (by omega) (by omega) (by omega)
  have m3 : σm 1 3 = nI (S 3) := hm.1 3 (by omega) (by omega) (by omega)
  have m4 : σm 1 4 = nI (S 4) := hm.1 4 (by omega) (by omega) (by omega)
  have m6 : σm 1 6 = nI (S 6) := hm.1 6 (by omega) (by omega) (by omega)
  have m7 : σm 1 7 = nI (S 7) := hm.1 7 (by omega) (by omega) (by omega)
  have bw := hw.2.1
  have b7 := hw.1 7
  unfold f_X5_see f_X6_see
  by_cases hz : a0 = -1
  · subst hz
    simp (disch := first | omega | assumption) only [ev_add, ev_mul, ev_rem, ev_sub, ev_ltT, ev_ltF, ev_leT, ev_leF, ev_eqT, ev_eqF, ev_cl, ev_in, gd_t, bd_s, lt_e, ev_of, ↓reduceIte, decide_true, true_or, or_true, ev_l0, ev_l1, ev_l2, ev_l3, ev_l4, ev_l5, ev_l6, ev_l7, ev_l8, ev_l9, ev_l10, ev_l11, ev_l12, ev_l13, ev_l14, ev_l15, ev_l16, ev_l17, ev_l18, ev_l19, ev_l20, ev_l21, ev_l22, ev_l23, ev_l24, ev_l25, ev_l26, ev_l30, ev_l31, ev_l32, ev_l37, ev_l40, ev_l41, ev_l43, ev_l48, ev_l49, ev_l51, ev_l55, ev_l57, ev_l58, ev_l60, ev_l61, ev_l79, ev_l85, ev_l91, ev_l99, ev_l100, ev_l107, ev_l115, ev_l127, ev_l140, ev_l215, ev_l220, ev_l920, ev_l9999]
    refine ⟨_, _, _, rfl, rfl, RR_new S (upN S 2 0) hi ht hst hw hb htc htm ?_ ?_ ?_ ⟨?_, ?_, ?_, ?_⟩ ?_ ?_ ?_⟩
    · simp (disch := omega) only [upN_n]
    · intro k h1 h2
      simp (disch := omega) only [mu_n]
    · refine ⟨fun j hj => ?_, fun i hi => ?_⟩
      all_goals (simp (disch := omega) only [mu_a, mu_n])
    · rfl
    · rfl
    · rfl
    · rfl
    · refine ⟨⟨?_, ?_, ?_, ?_, ?_, ?_, ?_⟩, fun p hp => ⟨?_, ?_, ?_⟩, fun v hv => ⟨⟨?_, ?_, ?_, ?_, ?_⟩, fun j hj => ?_⟩, fun i hi => ?_, fun i hi => ⟨?_, ?_⟩, fun i hi => ⟨?_, ?_, ?_⟩⟩
      all_goals (try simp only [mu_v, upN, and_self, true_and, and_true, false_and, and_false, ↓reduceIte, eq_self, Nat.reduceEqDiff, Nat.add_left_cancel_iff])
      all_goals (repeat' split)
      all_goals first | rfl | omega | exact hc.1.1 | exact hc.1.2.1 | exact hc.1.2.2.1 | exact hc.1.2.2.2.1 | exact hc.1.2.2.2.2.1 | exact hc.1.2.2.2.2.2.1 | exact hc.1.2.2.2.2.2.2 | exact (hc.2.1 p hp).1 | exact (hc.2.1 p hp).2.1 | exact (hc.2.1 p hp).2.2 | exact (hc.2.2.1 v hv).1.1 | exact (hc.2.2.1 v hv).1.2.1 | exact (hc.2.2.1 v hv).1.2.2.1 | exact (hc.2.2.1 v hv).1.2.2.2.1 | exact (hc.2.2.1 v hv).1.2.2.2.2 | exact (hc.2.2.1 v hv).2 j hj | exact hc.2.2.2.1 i hi | exact (hc.2.2.2.2.1 i hi).1 | exact (hc.2.2.2.2.1 i hi).2 | exact (hc.2.2.2.2.2 i hi).1 | exact (hc.2.2.2.2.2 i hi).2.1 | exact (hc.2.2.2.2.2 i hi).2.2
    · refine ⟨fun k hk h5 hs => ?_, ?_, fun p hp => ?_⟩
      all_goals (try simp only [mu_v, upN, and_self, true_and, and_true, false_and, and_false, ↓reduceIte, eq_self, Nat.reduceEqDiff, Nat.add_left_cancel_iff])
      all_goals (repeat' split)
      all_goals first | rfl | omega | exact hm.1 k hk h5 hs | exact hm.2.1 | exact hm.2.2 p hp
    · refine ⟨fun k => ?_, ⟨?_, ?_, ?_, ?_, ?_, ?_, ?_, ?_⟩, fun p hp => ⟨?_, fun hq => ?_, fun hq => ?_, ?_⟩, fun v hv => ⟨?_, ?_, ?_, ?_, ?_, fun j hj => ?_⟩, fun i hi => ?_, fun i hi => ⟨?_, ?_⟩, fun i hi => ⟨?_, ?_, ?_⟩⟩
      all_goals (try simp (disch := omega) only [upN_s, upN_n] at *)
      all_goals (try simp only [upN, and_self, true_and, and_true, false_and, and_false, ↓reduceIte, eq_self])
      all_goals (repeat' split)
      all_goals first | omega | exact hw.1 _ | (have z := hw.2.1; omega) | (have z := hw.2.2.1 p hp; have z2 := hw.2.1; omega) | (have z := hw.2.2.2.1 v (by omega); have z2 := hw.2.1; first | omega | (have z3 := z.2.2.2.2.2 j hj; omega)) | (have z := hw.2.2.2.2.1 i (by omega); omega) | (have z := hw.2.2.2.2.2.1 i (by omega); omega) | (have z := hw.2.2.2.2.2.2 i (by omega); omega)
  · rw [if_neg hz, if_neg hz]
    rcases ix_p a0 (S 6) (by omega) with h | ⟨p, hp, rfl⟩
    · simp (disch := first | omega | assumption) only [ev_add, ev_mul, ev_rem, ev_sub, ev_ltT, ev_ltF, ev_leT, ev_leF, ev_eqT, ev_eqF, ev_cl, ev_in, gd_t, bd_s, lt_e, ev_of, ↓reduceIte, decide_true, true_or, or_true, ev_l0, ev_l1, ev_l2, ev_l3, ev_l4, ev_l5, ev_l6, ev_l7, ev_l8, ev_l9, ev_l10, ev_l11, ev_l12, ev_l13, ev_l14, ev_l15, ev_l16, ev_l17, ev_l18, ev_l19, ev_l20, ev_l21, ev_l22, ev_l23, ev_l24, ev_l25, ev_l26, ev_l30, ev_l31, ev_l32, ev_l37, ev_l40, ev_l41, ev_l43, ev_l48, ev_l49, ev_l51, ev_l55, ev_l57, ev_l58, ev_l60, ev_l61, ev_l79, ev_l85, ev_l91, ev_l99, ev_l100, ev_l107, ev_l115, ev_l127, ev_l140, ev_l215, ev_l220, ev_l920, ev_l9999, hp_f n6 h, ip_f m6 (by omega) h]
      exact ⟨_, _, _, rfl, rfl, hR⟩
    · simp (disch := first | omega | assumption) only [ev_add, ev_mul, ev_rem, ev_sub, ev_ltT, ev_ltF, ev_leT, ev_leF, ev_eqT, ev_eqF, ev_cl, ev_in, gd_t, bd_s, lt_e, ev_of, ↓reduceIte, decide_true, true_or, or_true, ev_l0, ev_l1, ev_l2, ev_l3, ev_l4, ev_l5, ev_l6, ev_l7, ev_l8, ev_l9, ev_l10, ev_l11, ev_l12, ev_l13, ev_l14, ev_l15, ev_l16, ev_l17, ev_l18, ev_l19, ev_l20, ev_l21, ev_l22, ev_l23, ev_l24, ev_l25, ev_l26, ev_l30, ev_l31, ev_l32, ev_l37, ev_l40, ev_l41, ev_l43, ev_l48, ev_l49, ev_l51, ev_l55, ev_l57, ev_l58, ev_l60, ev_l61, ev_l79, ev_l85, ev_l91, ev_l99, ev_l100, ev_l107, ev_l115, ev_l127, ev_l140, ev_l215, ev_l220, ev_l920, ev_l9999, hp_t n6 hp (by omega), ip_t m6 hp (by omega)]
      rcases ix_p a1 7 (by omega) with h | ⟨n, hn, rfl⟩
      · simp (disch := first | omega | assumption) only [ev_add, ev_mul, ev_rem, ev_sub, ev_ltT, ev_ltF, ev_leT, ev_leF, ev_eqT, ev_eqF, ev_cl, ev_in, gd_t, bd_s, lt_e, ev_of, ↓reduceIte, decide_true, true_or, or_true, ev_l0, ev_l1, ev_l2, ev_l3, ev_l4, ev_l5, ev_l6, ev_l7, ev_l8, ev_l9, ev_l10, ev_l11, ev_l12, ev_l13, ev_l14, ev_l15, ev_l16, ev_l17, ev_l18, ev_l19, ev_l20, ev_l21, ev_l22, ev_l23, ev_l24, ev_l25, ev_l26, ev_l30, ev_l31, ev_l32, ev_l37, ev_l40, ev_l41, ev_l43, ev_l48, ev_l49, ev_l51, ev_l55, ev_l57, ev_l58, ev_l60, ev_l61, ev_l79, ev_l85, ev_l91, ev_l99, ev_l100, ev_l107, ev_l115, ev_l127, ev_l140, ev_l215, ev_l220, ev_l920, ev_l9999, wi_e, show f_X6_in a1 (nI 0) (nI 6) = _ from in_f (n := 7) h (by omega) (by omega)]
        exact ⟨_, _, _, rfl, rfl, hR⟩
      · simp (disch := first | omega | assumption) only [ev_add, ev_mul, ev_rem, ev_sub, ev_ltT, ev_ltF, ev_leT, ev_leF, ev_eqT, ev_eqF, ev_cl, ev_in, gd_t, bd_s, lt_e, ev_of, ↓reduceIte, decide_true, true_or, or_true, ev_l0, ev_l1, ev_l2, ev_l3, ev_l4, ev_l5, ev_l6, ev_l7, ev_l8, ev_l9, ev_l10, ev_l11, ev_l12, ev_l13, ev_l14, ev_l15, ev_l16, ev_l17, ev_l18, ev_l19, ev_l20, ev_l21, ev_l22, ev_l23, ev_l24, ev_l25, ev_l26, ev_l30, ev_l31, ev_l32, ev_l37, ev_l40, ev_l41, ev_l43, ev_l48, ev_l49, ev_l51, ev_l55, ev_l57, ev_l58, ev_l60, ev_l61, ev_l79, ev_l85, ev_l91, ev_l99, ev_l100, ev_l107, ev_l115, ev_l127, ev_l140, ev_l215, ev_l220, ev_l920, ev_l9999, wi_e, show f_X6_in (nI n) (nI 0) (nI 6) = _ from in_t (n := 7) hn (by omega), n2, m2]
        by_cases h6 : S 2 = 6
        · simp (disch := first | omega | assumption) only [ev_add, ev_mul, ev_rem, ev_sub, ev_ltT, ev_ltF, ev_leT, ev_leF, ev_eqT, ev_eqF, ev_cl, ev_in, gd_t, bd_s, lt_e, ev_of, ↓reduceIte, decide_true, true_or, or_true, ev_l0, ev_l1, ev_l2, ev_l3, ev_l4, ev_l5, ev_l6, ev_l7, ev_l8, ev_l9, ev_l10, ev_l11, ev_l12, ev_l13, ev_l14, ev_l15, ev_l16, ev_l17, ev_l18, ev_l19, ev_l20, ev_l21, ev_l22, ev_l23, ev_l24, ev_l25, ev_l26, ev_l30, ev_l31, ev_l32, ev_l37, ev_l40, ev_l41, ev_l43, ev_l48, ev_l49, ev_l51, ev_l55, ev_l57, ev_l58, ev_l60, ev_l61, ev_l79, ev_l85, ev_l91, ev_l99, ev_l100, ev_l107, ev_l115, ev_l127, ev_l140, ev_l215, ev_l220, ev_l920, ev_l9999, h6]
          exact ⟨_, _, _, rfl, rfl, hR⟩
        · simp (disch := first | omega | assumption) only [ev_add, ev_mul, ev_rem, ev_sub, ev_ltT, ev_ltF, ev_leT, ev_leF, ev_eqT, ev_eqF, ev_cl, ev_in, gd_t, bd_s, lt_e, ev_of, ↓reduceIte, decide_true, true_or, or_true, ev_l0, ev_l1, ev_l2, ev_l3, ev_l4, ev_l5, ev_l6, ev_l7, ev_l8, ev_l9, ev_l10, ev_l11, ev_l12, ev_l13, ev_l14, ev_l15, ev_l16, ev_l17, ev_l18, ev_l19, ev_l20, ev_l21, ev_l22, ev_l23, ev_l24, ev_l25, ev_l26, ev_l30, ev_l31, ev_l32, ev_l37, ev_l40, ev_l41, ev_l43, ev_l48, ev_l49, ev_l51, ev_l55, ev_l57, ev_l58, ev_l60, ev_l61, ev_l79, ev_l85, ev_l91, ev_l99, ev_l100, ev_l107, ev_l115, ev_l127, ev_l140, ev_l215, ev_l220, ev_l920, ev_l9999, n2, m2, mu_s, mu_a, mu_n]
          refine ⟨_, _, _, rfl, rfl, RR_new S (upN (upN (upN S (79 + S 2) p) (85 + S 2) n) 2 (S 2 + 1)) hi ht hst hw hb htc htm ?_ ?_ ?_ ⟨?_, ?_, ?_, ?_⟩ ?_ ?_ ?_⟩
          · simp (disch := omega) only [upN_n]
          · intro k h1 h2
            simp (disch := omega) only [mu_n]
          · refine ⟨fun j hj => ?_, fun i hi => ?_⟩
            all_goals (simp (disch := omega) only [mu_a, mu_n])
          · rfl
          · rfl
          · rfl
          · rfl
          · refine ⟨⟨?_, ?_, ?_, ?_, ?_, ?_, ?_⟩, fun p hp => ⟨?_, ?_, ?_⟩, fun v hv => ⟨⟨?_, ?_, ?_, ?_, ?_⟩, fun j hj => ?_⟩, fun i hi => ?_, fun i hi => ⟨?_, ?_⟩, fun i hi => ⟨?_, ?_, ?_⟩⟩
            all_goals (try simp only [mu_v, upN, and_self, true_and, and_true, false_and, and_false, ↓reduceIte, eq_self, Nat.reduceEqDiff, Nat.add_left_cancel_iff])
            all_goals (repeat' split)
            all_goals first | rfl | omega | exact hc.1.1 | exact hc.1.2.1 | exact hc.1.2.2.1 | exact hc.1.2.2.2.1 | exact hc.1.2.2.2.2.1 | exact hc.1.2.2.2.2.2.1 | exact hc.1.2.2.2.2.2.2 | exact (hc.2.1 p hp).1 | exact (hc.2.1 p hp).2.1 | exact (hc.2.1 p hp).2.2 | exact (hc.2.2.1 v hv).1.1 | exact (hc.2.2.1 v hv).1.2.1 | exact (hc.2.2.1 v hv).1.2.2.1 | exact (hc.2.2.1 v hv).1.2.2.2.1 | exact (hc.2.2.1 v hv).1.2.2.2.2 | exact (hc.2.2.1 v hv).2 j hj | exact hc.2.2.2.1 i hi | exact (hc.2.2.2.2.1 i hi).1 | exact (hc.2.2.2.2.1 i hi).2 | exact (hc.2.2.2.2.2 i hi).1 | exact (hc.2.2.2.2.2 i hi).2.1 | exact (hc.2.2.2.2.2 i hi).2.2
          · refine ⟨fun k hk h5 hs => ?_, ?_, fun p hp => ?_⟩
            all_goals (try simp only [mu_v, upN, and_self, true_and, and_true, false_and, and_false, ↓reduceIte, eq_self, Nat.reduceEqDiff, Nat.add_left_cancel_iff])
            all_goals (repeat' split)
            all_goals first | rfl | omega | exact hm.1 k hk h5 hs | exact hm.2.1 | exact hm.2.2 p hp
          · refine ⟨fun k => ?_, ⟨?_, ?_, ?_, ?_, ?_, ?_, ?_, ?_⟩, fun p hp => ⟨?_, fun hq => ?_, fun hq => ?_, ?_⟩, fun v hv => ⟨?_, ?_, ?_, ?_, ?_, fun j hj => ?_⟩, fun i hi => ?_, fun i hi => ⟨?_, ?_⟩, fun i hi => ⟨?_, ?_, ?_⟩⟩
            all_goals (try simp (disch := omega) only [upN_s, upN_n] at *)
            all_goals (try simp only [upN, and_self, true_and, and_true, false_and, and_false, ↓reduceIte, eq_self])
            all_goals (repeat' split)
            all_goals first | omega | exact hw.1 _ | (have z := hw.2.1; omega) | (have z := hw.2.2.1 p hp; have z2 := hw.2.1; omega) | (have z := hw.2.2.2.1 v (by omega); have z2 := hw.2.1; first | omega | (have z3 := z.2.2.2.2.2 j hj; omega)) | (have z := hw.2.2.2.2.1 i (by omega); omega) | (have z := hw.2.2.2.2.2.1 i (by omega); omega) | (have z := hw.2.2.2.2.2.2 i (by omega); omega)
theorem op_count : lw_op_count RR := by
  intro t σl σm a0 hR
  obtain ⟨⟨S, F, hc, hm, hw, hb, htc, htm⟩, hi, ht, hst⟩ := id hR
  have n6 : σl 0 0 = nI (S 6) := hc.1.1
  have n7 : σl 0 1 = nI (S 7) := hc.1.2.1
  have n0 : σl 0 2 = nI (S 0) := hc.1.2.2.1
  have n4 : σl 0 3 = nI (S 4) := hc.1.2.2.2.1
  have n1 : σl 0 4 = nI (S 1) := hc.1.2.2.2.2.1
  have n2 : σl 0 5 = nI (S 2) := hc.1.2.2.2.2.2.1
  have n3 : σl 0 6 = nI (S 3) := hc.1.2.2.2.2.2.2
  have m0 : σm 1 0 = nI (S 0) := hm.1 0 (by omega) (by omega) (by omega)
  have m1 : σm 1 1 = nI (S 1) := hm.1 1 (by omega) (by omega) (by omega)
  have m2 : σm 1 2 = nI (S 2) := hm.1 2 (by omega) (by omega) (by omega)
  have m3 : σm 1 3 = nI (S 3) := hm.1 3 (by omega) (by omega) (by omega)
  have m4 : σm 1 4 = nI (S 4) := hm.1 4 (by omega) (by omega) (by omega)
  have m6 : σm 1 6 = nI (S 6) := hm.1 6 (by omega) (by omega) (by omega)
  have m7 : σm 1 7 = nI (S 7) := hm.1 7 (by omega) (by omega) (by omega)
  have bw := hw.2.1
  have b7 := hw.1 7
  obtain ⟨r, hr1, hr2, hr3, -⟩ := ht
  unfold f_X5_count f_X6_count
  rcases ix_p a0 6 (by omega) with h | ⟨k, hk, rfl⟩
  · have hne : ∀ j, j < 6 → ¬ a0 = nI j := by
      intro j hj e
      subst e
      rcases h with h | h
      · exact nI_pos (by omega) h
      · exact nI_ge hj (by omega) h
    rw [if_neg (show ¬ a0 = 0 from hne 0 (by omega)), if_neg (show ¬ a0 = 1 from hne 1 (by omega)), if_neg (show ¬ a0 = 2 from hne 2 (by omega)), if_neg (show ¬ a0 = 3 from hne 3 (by omega)), if_neg (show ¬ a0 = 4 from hne 4 (by omega)), if_neg (show ¬ a0 = 5 from hne 5 (by omega)), if_neg (show ¬ a0 = 5 from hne 5 (by omega))]
    have h5 : a0 < 0 ∨ nI 5 ≤ a0 := by
      rcases h with h | h
      · exact Or.inl h
      · exact Or.inr (Int32.le_trans (show nI 5 ≤ nI 6 by decide) h)
    simp (disch := first | omega | assumption) only [ev_add, ev_mul, ev_rem, ev_sub, ev_ltT, ev_ltF, ev_leT, ev_leF, ev_eqT, ev_eqF, ev_cl, ev_in, gd_t, bd_s, lt_e, ev_of, ↓reduceIte, decide_true, true_or, or_true, ev_l0, ev_l1, ev_l2, ev_l3, ev_l4, ev_l5, ev_l6, ev_l7, ev_l8, ev_l9, ev_l10, ev_l11, ev_l12, ev_l13, ev_l14, ev_l15, ev_l16, ev_l17, ev_l18, ev_l19, ev_l20, ev_l21, ev_l22, ev_l23, ev_l24, ev_l25, ev_l26, ev_l30, ev_l31, ev_l32, ev_l37, ev_l40, ev_l41, ev_l43, ev_l48, ev_l49, ev_l51, ev_l55, ev_l57, ev_l58, ev_l60, ev_l61, ev_l79, ev_l85, ev_l91, ev_l99, ev_l100, ev_l107, ev_l115, ev_l127, ev_l140, ev_l215, ev_l220, ev_l920, ev_l9999, show f_X6_in a0 (nI 0) (nI 4) = _ from in_f (n := 5) h5 (by omega) (by omega)]
    exact ⟨_, rfl, rfl, hR⟩
  · have hk' : k = 0 ∨ k = 1 ∨ k = 2 ∨ k = 3 ∨ k = 4 ∨ k = 5 := by omega
    rcases hk' with rfl | rfl | rfl | rfl | rfl | rfl
    · simp (disch := first | omega | assumption) only [ev_add, ev_mul, ev_rem, ev_sub, ev_ltT, ev_ltF, ev_leT, ev_leF, ev_eqT, ev_eqF, ev_cl, ev_in, gd_t, bd_s, lt_e, ev_of, ↓reduceIte, decide_true, true_or, or_true, ev_l0, ev_l1, ev_l2, ev_l3, ev_l4, ev_l5, ev_l6, ev_l7, ev_l8, ev_l9, ev_l10, ev_l11, ev_l12, ev_l13, ev_l14, ev_l15, ev_l16, ev_l17, ev_l18, ev_l19, ev_l20, ev_l21, ev_l22, ev_l23, ev_l24, ev_l25, ev_l26, ev_l30, ev_l31, ev_l32, ev_l37, ev_l40, ev_l41, ev_l43, ev_l48, ev_l49, ev_l51, ev_l55, ev_l57, ev_l58, ev_l60, ev_l61, ev_l79, ev_l85, ev_l91, ev_l99, ev_l100, ev_l107, ev_l115, ev_l127, ev_l140, ev_l215, ev_l220, ev_l920, ev_l9999, show f_X6_in (nI 0) (nI 0) (nI 4) = _ from in_t (n := 5) (by omega) (by omega), n0, m0]
      exact ⟨_, rfl, rfl, hR⟩
    · simp (disch := first | omega | assumption) only [ev_add, ev_mul, ev_rem, ev_sub, ev_ltT, ev_ltF, ev_leT, ev_leF, ev_eqT, ev_eqF, ev_cl, ev_in, gd_t, bd_s, lt_e, ev_of, ↓reduceIte, decide_true, true_or, or_true, ev_l0, ev_l1, ev_l2, ev_l3, ev_l4, ev_l5, ev_l6, ev_l7, ev_l8, ev_l9, ev_l10, ev_l11, ev_l12, ev_l13, ev_l14, ev_l15, ev_l16, ev_l17, ev_l18, ev_l19, ev_l20, ev_l21, ev_l22, ev_l23, ev_l24, ev_l25, ev_l26, ev_l30, ev_l31, ev_l32, ev_l37, ev_l40, ev_l41, ev_l43, ev_l48, ev_l49, ev_l51, ev_l55, ev_l57, ev_l58, ev_l60, ev_l61, ev_l79, ev_l85, ev_l91, ev_l99, ev_l100, ev_l107, ev_l115, ev_l127, ev_l140, ev_l215, ev_l220, ev_l920, ev_l9999, show f_X6_in (nI 1) (nI 0) (nI 4) = _ from in_t (n := 5) (by omega) (by omega), n1, m1]
      exact ⟨_, rfl, rfl, hR⟩
    · simp (disch := first | omega | assumption) only [ev_add, ev_mul, ev_rem, ev_sub, ev_ltT, ev_ltF, ev_leT, ev_leF, ev_eqT, ev_eqF, ev_cl, ev_in, gd_t, bd_s, lt_e, ev_of, ↓reduceIte, decide_true, true_or, or_true, ev_l0, ev_l1, ev_l2, ev_l3, ev_l4, ev_l5, ev_l6, ev_l7, ev_l8, ev_l9, ev_l10, ev_l11, ev_l12, ev_l13, ev_l14, ev_l15, ev_l16, ev_l17, ev_l18, ev_l19, ev_l20, ev_l21, ev_l22, ev_l23, ev_l24, ev_l25, ev_l26, ev_l30, ev_l31, ev_l32, ev_l37, ev_l40, ev_l41, ev_l43, ev_l48, ev_l49, ev_l51, ev_l55, ev_l57, ev_l58, ev_l60, ev_l61, ev_l79, ev_l85, ev_l91, ev_l99, ev_l100, ev_l107, ev_l115, ev_l127, ev_l140, ev_l215, ev_l220, ev_l920, ev_l9999, show f_X6_in (nI 2) (nI 0) (nI 4) = _ from in_t (n := 5) (by omega) (by omega), n2, m2]
      exact ⟨_, rfl, rfl, hR⟩
    · simp (disch := first | omega | assumption) only [ev_add, ev_mul, ev_rem, ev_sub, ev_ltT, ev_ltF, ev_leT, ev_leF, ev_eqT, ev_eqF, ev_cl, ev_in, gd_t, bd_s, lt_e, ev_of, ↓reduceIte, decide_true, true_or, or_true, ev_l0, ev_l1, ev_l2, ev_l3, ev_l4, ev_l5, ev_l6, ev_l7, ev_l8, ev_l9, ev_l10, ev_l11, ev_l12, ev_l13, ev_l14, ev_l15, ev_l16, ev_l17, ev_l18, ev_l19, ev_l20, ev_l21, ev_l22, ev_l23, ev_l24, ev_l25, ev_l26, ev_l30, ev_l31, ev_l32, ev_l37, ev_l40, ev_l41, ev_l43, ev_l48, ev_l49, ev_l51, ev_l55, ev_l57, ev_l58, ev_l60, ev_l61, ev_l79, ev_l85, ev_l91, ev_l99, ev_l100, ev_l107, ev_l115, ev_l127, ev_l140, ev_l215, ev_l220, ev_l920, ev_l9999, show f_X6_in (nI 3) (nI 0) (nI 4) = _ from in_t (n := 5) (by omega) (by omega), n3, m3]
      exact ⟨_, rfl, rfl, hR⟩
    · simp (disch := first | omega | assumption) only [ev_add, ev_mul, ev_rem, ev_sub, ev_ltT, ev_ltF, ev_leT, ev_leF, ev_eqT, ev_eqF, ev_cl, ev_in, gd_t, bd_s, lt_e, ev_of, ↓reduceIte, decide_true, true_or, or_true, ev_l0, ev_l1, ev_l2, ev_l3, ev_l4, ev_l5, ev_l6, ev_l7, ev_l8, ev_l9, ev_l10, ev_l11, ev_l12, ev_l13, ev_l14, ev_l15, ev_l16, ev_l17, ev_l18, ev_l19, ev_l20, ev_l21, ev_l22, ev_l23, ev_l24, ev_l25, ev_l26, ev_l30, ev_l31, ev_l32, ev_l37, ev_l40, ev_l41, ev_l43, ev_l48, ev_l49, ev_l51, ev_l55, ev_l57, ev_l58, ev_l60, ev_l61, ev_l79, ev_l85, ev_l91, ev_l99, ev_l100, ev_l107, ev_l115, ev_l127, ev_l140, ev_l215, ev_l220, ev_l920, ev_l9999, show f_X6_in (nI 4) (nI 0) (nI 4) = _ from in_t (n := 5) (by omega) (by omega), n4, m4]
      exact ⟨_, rfl, rfl, hR⟩
    · simp (disch := first | omega | assumption) only [ev_add, ev_mul, ev_rem, ev_sub, ev_ltT, ev_ltF, ev_leT, ev_leF, ev_eqT, ev_eqF, ev_cl, ev_in, gd_t, bd_s, lt_e, ev_of, ↓reduceIte, decide_true, true_or, or_true, ev_l0, ev_l1, ev_l2, ev_l3, ev_l4, ev_l5, ev_l6, ev_l7, ev_l8, ev_l9, ev_l10, ev_l11, ev_l12, ev_l13, ev_l14, ev_l15, ev_l16, ev_l17, ev_l18, ev_l19, ev_l20, ev_l21, ev_l22, ev_l23, ev_l24, ev_l25, ev_l26, ev_l30, ev_l31, ev_l32, ev_l37, ev_l40, ev_l41, ev_l43, ev_l48, ev_l49, ev_l51, ev_l55, ev_l57, ev_l58, ev_l60, ev_l61, ev_l79, ev_l85, ev_l91, ev_l99, ev_l100, ev_l107, ev_l115, ev_l127, ev_l140, ev_l215, ev_l220, ev_l920, ev_l9999, hr2, hr3]
      exact ⟨_, rfl, rfl, hR⟩
theorem op_trace : lw_op_trace RR := by
  intro t σl σm a0 hR
  obtain ⟨r, hr1, hr2, hr3, hr4⟩ := hR.2.2.1
  unfold f_X5_trace f_X6_trace f_X0_kept b_X6_trace_20
  have key : ∀ n, n ≤ 20 → n ≤ r → ∃ q, jx_bd (f_X6_in a0 (nI 0) (nI n - nI 1)) (fun q2 => if q2 = 0 then some (-1 : Int32) else jx_gd (jx_in a0 20) (some (σl 60 a0.toNatClampNeg))) = some q ∧ jx_bd (f_X6_in a0 (nI 0) (nI n - nI 1)) (fun q1 => if q1 = 0 then some (-1 : Int32) else jx_gd (jx_in a0 20) (some (σm 9 a0.toNatClampNeg))) = some q ∧ RR t σl σm := by
    intro n hn hnr
    rcases ix_p a0 n (by omega) with h | ⟨k, hk, rfl⟩
    · by_cases hz : n = 0
      · subst hz
        rw [in_f0 h]
        simp (disch := first | omega | assumption) only [ev_add, ev_mul, ev_rem, ev_sub, ev_ltT, ev_ltF, ev_leT, ev_leF, ev_eqT, ev_eqF, ev_cl, ev_in, gd_t, bd_s, lt_e, ev_of, ↓reduceIte, decide_true, true_or, or_true, ev_l0, ev_l1, ev_l2, ev_l3, ev_l4, ev_l5, ev_l6, ev_l7, ev_l8, ev_l9, ev_l10, ev_l11, ev_l12, ev_l13, ev_l14, ev_l15, ev_l16, ev_l17, ev_l18, ev_l19, ev_l20, ev_l21, ev_l22, ev_l23, ev_l24, ev_l25, ev_l26, ev_l30, ev_l31, ev_l32, ev_l37, ev_l40, ev_l41, ev_l43, ev_l48, ev_l49, ev_l51, ev_l55, ev_l57, ev_l58, ev_l60, ev_l61, ev_l79, ev_l85, ev_l91, ev_l99, ev_l100, ev_l107, ev_l115, ev_l127, ev_l140, ev_l215, ev_l220, ev_l920, ev_l9999]
        exact ⟨_, rfl, rfl, hR⟩
      · rw [pk_sub (show 1 ≤ n by omega), in_f h (by omega) (by omega)]
        simp (disch := first | omega | assumption) only [ev_add, ev_mul, ev_rem, ev_sub, ev_ltT, ev_ltF, ev_leT, ev_leF, ev_eqT, ev_eqF, ev_cl, ev_in, gd_t, bd_s, lt_e, ev_of, ↓reduceIte, decide_true, true_or, or_true, ev_l0, ev_l1, ev_l2, ev_l3, ev_l4, ev_l5, ev_l6, ev_l7, ev_l8, ev_l9, ev_l10, ev_l11, ev_l12, ev_l13, ev_l14, ev_l15, ev_l16, ev_l17, ev_l18, ev_l19, ev_l20, ev_l21, ev_l22, ev_l23, ev_l24, ev_l25, ev_l26, ev_l30, ev_l31, ev_l32, ev_l37, ev_l40, ev_l41, ev_l43, ev_l48, ev_l49, ev_l51, ev_l55, ev_l57, ev_l58, ev_l60, ev_l61, ev_l79, ev_l85, ev_l91, ev_l99, ev_l100, ev_l107, ev_l115, ev_l127, ev_l140, ev_l215, ev_l220, ev_l920, ev_l9999]
        exact ⟨_, rfl, rfl, hR⟩
    · rw [pk_sub (show 1 ≤ n by omega), in_t hk (by omega)]
      simp (disch := first | omega | assumption) only [ev_add, ev_mul, ev_rem, ev_sub, ev_ltT, ev_ltF, ev_leT, ev_leF, ev_eqT, ev_eqF, ev_cl, ev_in, gd_t, bd_s, lt_e, ev_of, ↓reduceIte, decide_true, true_or, or_true, ev_l0, ev_l1, ev_l2, ev_l3, ev_l4, ev_l5, ev_l6, ev_l7, ev_l8, ev_l9, ev_l10, ev_l11, ev_l12, ev_l13, ev_l14, ev_l15, ev_l16, ev_l17, ev_l18, ev_l19, ev_l20, ev_l21, ev_l22, ev_l23, ev_l24, ev_l25, ev_l26, ev_l30, ev_l31, ev_l32, ev_l37, ev_l40, ev_l41, ev_l43, ev_l48, ev_l49, ev_l51, ev_l55, ev_l57, ev_l58, ev_l60, ev_l61, ev_l79, ev_l85, ev_l91, ev_l99, ev_l100, ev_l107, ev_l115, ev_l127, ev_l140, ev_l215, ev_l220, ev_l920, ev_l9999, hr4 k (by omega) (by omega)]
      exact ⟨_, rfl, rfl, hR⟩
  by_cases h20 : 20 ≤ r
  · by_cases h21 : r = 20
    · simp (disch := first | omega | assumption) only [ev_add, ev_mul, ev_rem, ev_sub, ev_ltT, ev_ltF, ev_leT, ev_leF, ev_eqT, ev_eqF, ev_cl, ev_in, gd_t, bd_s, lt_e, ev_of, ↓reduceIte, decide_true, true_or, or_true, ev_l0, ev_l1, ev_l2, ev_l3, ev_l4, ev_l5, ev_l6, ev_l7, ev_l8, ev_l9, ev_l10, ev_l11, ev_l12, ev_l13, ev_l14, ev_l15, ev_l16, ev_l17, ev_l18, ev_l19, ev_l20, ev_l21, ev_l22, ev_l23, ev_l24, ev_l25, ev_l26, ev_l30, ev_l31, ev_l32, ev_l37, ev_l40, ev_l41, ev_l43, ev_l48, ev_l49, ev_l51, ev_l55, ev_l57, ev_l58, ev_l60, ev_l61, ev_l79, ev_l85, ev_l91, ev_l99, ev_l100, ev_l107, ev_l115, ev_l127, ev_l140, ev_l215, ev_l220, ev_l920, ev_l9999, wi_e, hr2, hr3, h21]
      exact key 20 (by omega) (by omega)
    · simp (disch := first | omega | assumption) only [ev_add, ev_mul, ev_rem, ev_sub, ev_ltT, ev_ltF, ev_leT, ev_leF, ev_eqT, ev_eqF, ev_cl, ev_in, gd_t, bd_s, lt_e, ev_of, ↓reduceIte, decide_true, true_or, or_true, ev_l0, ev_l1, ev_l2, ev_l3, ev_l4, ev_l5, ev_l6, ev_l7, ev_l8, ev_l9, ev_l10, ev_l11, ev_l12, ev_l13, ev_l14, ev_l15, ev_l16, ev_l17, ev_l18, ev_l19, ev_l20, ev_l21, ev_l22, ev_l23, ev_l24, ev_l25, ev_l26, ev_l30, ev_l31, ev_l32, ev_l37, ev_l40, ev_l41, ev_l43, ev_l48, ev_l49, ev_l51, ev_l55, ev_l57, ev_l58, ev_l60, ev_l61, ev_l79, ev_l85, ev_l91, ev_l99, ev_l100, ev_l107, ev_l115, ev_l127, ev_l140, ev_l215, ev_l220, ev_l920, ev_l9999, wi_e, hr2, hr3]
      exact key 20 (by omega) (by omega)
  · simp (disch := first | omega | assumption) only [ev_add, ev_mul, ev_rem, ev_sub, ev_ltT, ev_ltF, ev_leT, ev_leF, ev_eqT, ev_eqF, ev_cl, ev_in, gd_t, bd_s, lt_e, ev_of, ↓reduceIte, decide_true, true_or, or_true, ev_l0, ev_l1, ev_l2, ev_l3, ev_l4, ev_l5, ev_l6, ev_l7, ev_l8, ev_l9, ev_l10, ev_l11, ev_l12, ev_l13, ev_l14, ev_l15, ev_l16, ev_l17, ev_l18, ev_l19, ev_l20, ev_l21, ev_l22, ev_l23, ev_l24, ev_l25, ev_l26, ev_l30, ev_l31, ev_l32, ev_l37, ev_l40, ev_l41, ev_l43, ev_l48, ev_l49, ev_l51, ev_l55, ev_l57, ev_l58, ev_l60, ev_l61, ev_l79, ev_l85, ev_l91, ev_l99, ev_l100, ev_l107, ev_l115, ev_l127, ev_l140, ev_l215, ev_l220, ev_l920, ev_l9999, wi_e, hr2, hr3]
    exact key r (by omega) (by omega)
