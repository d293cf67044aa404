theorem op_tale : lw_op_tale RR := by
  intro t σl σm a0 a1 a2 hR
  obtain ⟨⟨S, F, hc, hm, hw, hb, htc, htm⟩, hi, ht, hst⟩ := id hR
  have n6 : σl 0 0 = nI (S 6) := hc.1.1
  have n7 : σl 0 1 = nI (S 7) := hc.1.2.1
  have n0 : σl 0 2 = nI (S 0) := hc.1.2.2.1
  have n4 : σl 0 3 = nI (S 4) := hc.1.2.2.2.1
  have n1 : σl 0 4 = nI (S 1) := hc.1.2.2.2.2.1
  have n2 : σl 0 5 = nI (S 2) := hc.1.2.2.2.2.2.1
  have n3 : σl 0 6 = nI (S 3) := hc.1.2.2.2.2.2.2
  have m0 : σm 1 0 = nI (S 0) := hm.1 0 (by omega) (by omega) (by omega)
  have m1 : σm 1 1 = nI (S 1) := hm.1 1 (by omega) (by omega) (by omega)
  have m2 : σm 1 2 = nI (S 2) := hm.1 2 (by omega) (by omega) (by omega)
  have m3 : σm 1 3 = nI (S 3) := hm.1 3 (by omega) (by omega) (by omega)
  have m4 : σm 1 4 = nI (S 4) := hm.1 4 (by omega) (by omega) (by omega)
  have m6 : σm 1 6 = nI (S 6) := hm.1 6 (by omega) (by omega) (by omega)
  have m7 : σm 1 7 = nI (S 7) := hm.1 7 (by omega) (by omega) (by omega)
  have bw := hw.2.1
  have b7 := hw.1 7
  unfold f_X5_tale f_X6_tale
  by_cases hz : a0 = -1
  · subst hz
    simp (disch := first | omega | assumption) only [ev_add, ev_mul, ev_rem, ev_sub, ev_ltT, ev_ltF, ev_leT, ev_leF, ev_eqT, ev_eqF, ev_cl, ev_in, gd_t, bd_s, lt_e, ev_of, ↓reduceIte, decide_true, true_or, or_true, ev_l0, ev_l1, ev_l2, ev_l3, ev_l4, ev_l5, ev_l6, ev_l7, ev_l8, ev_l9, ev_l10, ev_l11, ev_l12, ev_l13, ev_l14, ev_l15, ev_l16, ev_l17, ev_l18, ev_l19, ev_l20, ev_l21, ev_l22, ev_l23, ev_l24, ev_l25, ev_l26, ev_l30, ev_l31, ev_l32, ev_l37, ev_l40, ev_l41, ev_l43, ev_l48, ev_l49, ev_l51, ev_l55, ev_l57, ev_l58, ev_l60, ev_l61, ev_l79, ev_l85, ev_l91, ev_l99, ev_l100, ev_l107, ev_l115, ev_l127, ev_l140, ev_l215, ev_l220, ev_l920, ev_l9999, ev_nT, ev_nF, ev_nlT, ev_nlF]
    refine ⟨_, _, _, rfl, rfl, RR_new S (upN S 3 0) hi ht hst hw hb htc htm ?_ ?_ ?_ ⟨?_, ?_, ?_, ?_⟩ ?_ ?_ ?_⟩
    · simp (disch := omega) only [upN_n]
    · intro k h1 h2
      simp (disch := omega) only [mu_n]
    · refine ⟨fun j hj => ?_, fun i hi => ?_⟩
      all_goals (simp (disch := omega) only [mu_a, mu_n])
    · rfl
    · rfl
    · rfl
    · rfl
    · refine ⟨⟨?_, ?_, ?_, ?_, ?_, ?_, ?_⟩, fun p hp => ⟨?_, ?_, ?_⟩, fun v hv => ⟨⟨?_, ?_, ?_, ?_, ?_⟩, fun j hj => ?_⟩, fun i hi => ?_, fun i hi => ⟨?_, ?_⟩, fun i hi => ⟨?_, ?_, ?_⟩⟩
      all_goals (try simp only [mu_v, upN, and_self, true_and, and_true, false_and, and_false, ↓reduceIte, eq_self, Nat.reduceEqDiff, Nat.add_left_cancel_iff])
      all_goals (repeat' split)
      all_goals first | rfl | omega | exact hc.1.1 | exact hc.1.2.1 | exact hc.1.2.2.1 | exact hc.1.2.2.2.1 | exact hc.1.2.2.2.2.1 | exact hc.1.2.2.2.2.2.1 | exact hc.1.2.2.2.2.2.2 | exact (hc.2.1 p hp).1 | exact (hc.2.1 p hp).2.1 | exact (hc.2.1 p hp).2.2 | exact (hc.2.2.1 v hv).1.1 | exact (hc.2.2.1 v hv).1.2.1 | exact (hc.2.2.1 v hv).1.2.2.1 | exact (hc.2.2.1 v hv).1.2.2.2.1 | exact (hc.2.2.1 v hv).1.2.2.2.2 | exact (hc.2.2.1 v hv).2 j hj | exact hc.2.2.2.1 i hi | exact (hc.2.2.2.2.1 i hi).1 | exact (hc.2.2.2.2.1 i hi).2 | exact (hc.2.2.2.2.2 i hi).1 | exact (hc.2.2.2.2.2 i hi).2.1 | exact (hc.2.2.2.2.2 i hi).2.2
    · refine ⟨fun k hk h5 hs => ?_, ?_, fun p hp => ?_⟩
      all_goals (try simp only [mu_v, upN, and_self, true_and, and_true, false_and, and_false, ↓reduceIte, eq_self, Nat.reduceEqDiff, Nat.add_left_cancel_iff])
      all_goals (repeat' split)
      all_goals first | rfl | omega | exact hm.1 k hk h5 hs | exact hm.2.1 | exact hm.2.2 p hp
    · refine ⟨fun k => ?_, ⟨?_, ?_, ?_, ?_, ?_, ?_, ?_, ?_⟩, fun p hp => ⟨?_, fun hq => ?_, fun hq => ?_, ?_⟩, fun v hv => ⟨?_, ?_, ?_, ?_, ?_, fun j hj => ?_⟩, fun i hi => ?_, fun i hi => ⟨?_, ?_⟩, fun i hi => ⟨?_, ?_, ?_⟩⟩
      all_goals (try simp (disch := omega) only [upN_s, upN_n] at *)
      all_goals (try simp only [upN, and_self, true_and, and_true, false_and, and_false, ↓reduceIte, eq_self])
      all_goals (repeat' split)
      all_goals first | omega | exact hw.1 _ | (have z := hw.2.1; omega) | (have z := hw.2.2.1 p hp; have z2 := hw.2.1; omega) | (have z := hw.2.2.2.1 v (by omega); have z2 := hw.2.1; first | omega | (have z3 := z.2.2.2.2.2 j hj; omega)) | (have z := hw.2.2.2.2.1 i (by omega); omega) | (have z := hw.2.2.2.2.2.1 i (by omega); omega) | (have z := hw.2.2.2.2.2.2 i (by omega); omega)
  · rw [if_neg hz, if_neg hz]
    rcases ix_p a0 (S 0) (by omega) with h | ⟨v, hv, rfl⟩
    · simp (disch := first | omega | assumption) only [ev_add, ev_mul, ev_rem, ev_sub, ev_ltT, ev_ltF, ev_leT, ev_leF, ev_eqT, ev_eqF, ev_cl, ev_in, gd_t, bd_s, lt_e, ev_of, ↓reduceIte, decide_true, true_or, or_true, ev_l0, ev_l1, ev_l2, ev_l3, ev_l4, ev_l5, ev_l6, ev_l7, ev_l8, ev_l9, ev_l10, ev_l11, ev_l12, ev_l13, ev_l14, ev_l15, ev_l16, ev_l17, ev_l18, ev_l19, ev_l20, ev_l21, ev_l22, ev_l23, ev_l24, ev_l25, ev_l26, ev_l30, ev_l31, ev_l32, ev_l37, ev_l40, ev_l41, ev_l43, ev_l48, ev_l49, ev_l51, ev_l55, ev_l57, ev_l58, ev_l60, ev_l61, ev_l79, ev_l85, ev_l91, ev_l99, ev_l100, ev_l107, ev_l115, ev_l127, ev_l140, ev_l215, ev_l220, ev_l920, ev_l9999, ev_nT, ev_nF, ev_nlT, ev_nlF, hv_f n0 h, iv_f m0 (by omega) h]
      exact ⟨_, _, _, rfl, rfl, hR⟩
    · simp (disch := first | omega | assumption) only [ev_add, ev_mul, ev_rem, ev_sub, ev_ltT, ev_ltF, ev_leT, ev_leF, ev_eqT, ev_eqF, ev_cl, ev_in, gd_t, bd_s, lt_e, ev_of, ↓reduceIte, decide_true, true_or, or_true, ev_l0, ev_l1, ev_l2, ev_l3, ev_l4, ev_l5, ev_l6, ev_l7, ev_l8, ev_l9, ev_l10, ev_l11, ev_l12, ev_l13, ev_l14, ev_l15, ev_l16, ev_l17, ev_l18, ev_l19, ev_l20, ev_l21, ev_l22, ev_l23, ev_l24, ev_l25, ev_l26, ev_l30, ev_l31, ev_l32, ev_l37, ev_l40, ev_l41, ev_l43, ev_l48, ev_l49, ev_l51, ev_l55, ev_l57, ev_l58, ev_l60, ev_l61, ev_l79, ev_l85, ev_l91, ev_l99, ev_l100, ev_l107, ev_l115, ev_l127, ev_l140, ev_l215, ev_l220, ev_l920, ev_l9999, ev_nT, ev_nF, ev_nlT, ev_nlF, hv_t n0 hv (by omega), iv_t m0 hv (by omega)]
      rcases ix_p a2 (S 6) (by omega) with h | ⟨p, hp, rfl⟩
      · simp (disch := first | omega | assumption) only [ev_add, ev_mul, ev_rem, ev_sub, ev_ltT, ev_ltF, ev_leT, ev_leF, ev_eqT, ev_eqF, ev_cl, ev_in, gd_t, bd_s, lt_e, ev_of, ↓reduceIte, decide_true, true_or, or_true, ev_l0, ev_l1, ev_l2, ev_l3, ev_l4, ev_l5, ev_l6, ev_l7, ev_l8, ev_l9, ev_l10, ev_l11, ev_l12, ev_l13, ev_l14, ev_l15, ev_l16, ev_l17, ev_l18, ev_l19, ev_l20, ev_l21, ev_l22, ev_l23, ev_l24, ev_l25, ev_l26, ev_l30, ev_l31, ev_l32, ev_l37, ev_l40, ev_l41, ev_l43, ev_l48, ev_l49, ev_l51, ev_l55, ev_l57, ev_l58, ev_l60, ev_l61, ev_l79, ev_l85, ev_l91, ev_l99, ev_l100, ev_l107, ev_l115, ev_l127, ev_l140, ev_l215, ev_l220, ev_l920, ev_l9999, ev_nT, ev_nF, ev_nlT, ev_nlF, hp_f n6 h, ip_f m6 (by omega) h]
        exact ⟨_, _, _, rfl, rfl, hR⟩
      · simp (disch := first | omega | assumption) only [ev_add, ev_mul, ev_rem, ev_sub, ev_ltT, ev_ltF, ev_leT, ev_leF, ev_eqT, ev_eqF, ev_cl, ev_in, gd_t, bd_s, lt_e, ev_of, ↓reduceIte, decide_true, true_or, or_true, ev_l0, ev_l1, ev_l2, ev_l3, ev_l4, ev_l5, ev_l6, ev_l7, ev_l8, ev_l9, ev_l10, ev_l11, ev_l12, ev_l13, ev_l14, ev_l15, ev_l16, ev_l17, ev_l18, ev_l19, ev_l20, ev_l21, ev_l22, ev_l23, ev_l24, ev_l25, ev_l26, ev_l30, ev_l31, ev_l32, ev_l37, ev_l40, ev_l41, ev_l43, ev_l48, ev_l49, ev_l51, ev_l55, ev_l57, ev_l58, ev_l60, ev_l61, ev_l79, ev_l85, ev_l91, ev_l99, ev_l100, ev_l107, ev_l115, ev_l127, ev_l140, ev_l215, ev_l220, ev_l920, ev_l9999, ev_nT, ev_nF, ev_nlT, ev_nlF, hp_t n6 hp (by omega), ip_t m6 hp (by omega)]
        rcases ix_p a1 13 (by omega) with h | ⟨n, hn, rfl⟩
        · simp (disch := first | omega | assumption) only [ev_add, ev_mul, ev_rem, ev_sub, ev_ltT, ev_ltF, ev_leT, ev_leF, ev_eqT, ev_eqF, ev_cl, ev_in, gd_t, bd_s, lt_e, ev_of, ↓reduceIte, decide_true, true_or, or_true, ev_l0, ev_l1, ev_l2, ev_l3, ev_l4, ev_l5, ev_l6, ev_l7, ev_l8, ev_l9, ev_l10, ev_l11, ev_l12, ev_l13, ev_l14, ev_l15, ev_l16, ev_l17, ev_l18, ev_l19, ev_l20, ev_l21, ev_l22, ev_l23, ev_l24, ev_l25, ev_l26, ev_l30, ev_l31, ev_l32, ev_l37, ev_l40, ev_l41, ev_l43, ev_l48, ev_l49, ev_l51, ev_l55, ev_l57, ev_l58, ev_l60, ev_l61, ev_l79, ev_l85, ev_l91, ev_l99, ev_l100, ev_l107, ev_l115, ev_l127, ev_l140, ev_l215, ev_l220, ev_l920, ev_l9999, ev_nT, ev_nF, ev_nlT, ev_nlF, wi_e, show f_X6_in a1 (nI 0) (nI 12) = _ from in_f (n := 13) h (by omega) (by omega)]
          exact ⟨_, _, _, rfl, rfl, hR⟩
        · simp (disch := first | omega | assumption) only [ev_add, ev_mul, ev_rem, ev_sub, ev_ltT, ev_ltF, ev_leT, ev_leF, ev_eqT, ev_eqF, ev_cl, ev_in, gd_t, bd_s, lt_e, ev_of, ↓reduceIte, decide_true, true_or, or_true, ev_l0, ev_l1, ev_l2, ev_l3, ev_l4, ev_l5, ev_l6, ev_l7, ev_l8, ev_l9, ev_l10, ev_l11, ev_l12, ev_l13, ev_l14, ev_l15, ev_l16, ev_l17, ev_l18, ev_l19, ev_l20, ev_l21, ev_l22, ev_l23, ev_l24, ev_l25, ev_l26, ev_l30, ev_l31, ev_l32, ev_l37, ev_l40, ev_l41, ev_l43, ev_l48, ev_l49, ev_l51, ev_l55, ev_l57, ev_l58, ev_l60, ev_l61, ev_l79, ev_l85, ev_l91, ev_l99, ev_l100, ev_l107, ev_l115, ev_l127, ev_l140, ev_l215, ev_l220, ev_l920, ev_l9999, ev_nT, ev_nF, ev_nlT, ev_nlF, wi_e, show f_X6_in (nI n) (nI 0) (nI 12) = _ from in_t (n := 13) hn (by omega), n3, m3]
          by_cases h6 : S 3 = 8
          · simp (disch := first | omega | assumption) only [ev_add, ev_mul, ev_rem, ev_sub, ev_ltT, ev_ltF, ev_leT, ev_leF, ev_eqT, ev_eqF, ev_cl, ev_in, gd_t, bd_s, lt_e, ev_of, ↓reduceIte, decide_true, true_or, or_true, ev_l0, ev_l1, ev_l2, ev_l3, ev_l4, ev_l5, ev_l6, ev_l7, ev_l8, ev_l9, ev_l10, ev_l11, ev_l12, ev_l13, ev_l14, ev_l15, ev_l16, ev_l17, ev_l18, ev_l19, ev_l20, ev_l21, ev_l22, ev_l23, ev_l24, ev_l25, ev_l26, ev_l30, ev_l31, ev_l32, ev_l37, ev_l40, ev_l41, ev_l43, ev_l48, ev_l49, ev_l51, ev_l55, ev_l57, ev_l58, ev_l60, ev_l61, ev_l79, ev_l85, ev_l91, ev_l99, ev_l100, ev_l107, ev_l115, ev_l127, ev_l140, ev_l215, ev_l220, ev_l920, ev_l9999, ev_nT, ev_nF, ev_nlT, ev_nlF, h6]
            exact ⟨_, _, _, rfl, rfl, hR⟩
          · simp (disch := first | omega | assumption) only [ev_add, ev_mul, ev_rem, ev_sub, ev_ltT, ev_ltF, ev_leT, ev_leF, ev_eqT, ev_eqF, ev_cl, ev_in, gd_t, bd_s, lt_e, ev_of, ↓reduceIte, decide_true, true_or, or_true, ev_l0, ev_l1, ev_l2, ev_l3, ev_l4, ev_l5, ev_l6, ev_l7, ev_l8, ev_l9, ev_l10, ev_l11, ev_l12, ev_l13, ev_l14, ev_l15, ev_l16, ev_l17, ev_l18, ev_l19, ev_l20, ev_l21, ev_l22, ev_l23, ev_l24, ev_l25, ev_l26, ev_l30, ev_l31, ev_l32, ev_l37, ev_l40, ev_l41, ev_l43, ev_l48, ev_l49, ev_l51, ev_l55, ev_l57, ev_l58, ev_l60, ev_l61, ev_l79, ev_l85, ev_l91, ev_l99, ev_l100, ev_l107, ev_l115, ev_l127, ev_l140, ev_l215, ev_l220, ev_l920, ev_l9999, ev_nT, ev_nF, ev_nlT, ev_nlF, n3, m3, mu_s, mu_a, mu_n]
            refine ⟨_, _, _, rfl, rfl, RR_new S (upN (upN (upN (upN S (91 + S 3) v) (99 + S 3) n) (107 + S 3) p) 3 (S 3 + 1)) hi ht hst hw hb htc htm ?_ ?_ ?_ ⟨?_, ?_, ?_, ?_⟩ ?_ ?_ ?_⟩
            · simp (disch := omega) only [upN_n]
            · intro k h1 h2
              simp (disch := omega) only [mu_n]
            · refine ⟨fun j hj => ?_, fun i hi => ?_⟩
              all_goals (simp (disch := omega) only [mu_a, mu_n])
            · rfl
            · rfl
            · rfl
            · rfl
            · refine ⟨⟨?_, ?_, ?_, ?_, ?_, ?_, ?_⟩, fun p hp => ⟨?_, ?_, ?_⟩, fun v hv => ⟨⟨?_, ?_, ?_, ?_, ?_⟩, fun j hj => ?_⟩, fun i hi => ?_, fun i hi => ⟨?_, ?_⟩, fun i hi => ⟨?_, ?_, ?_⟩⟩
              all_goals (try simp only [mu_v, upN, and_self, true_and, and_true, false_and, and_false, ↓reduceIte, eq_self, Nat.reduceEqDiff, Nat.add_left_cancel_iff])
              all_goals (repeat' split)
              all_goals first | with_reducible rfl | omega | exact hc.1.1 | exact hc.1.2.1 | exact hc.1.2.2.1 | exact hc.1.2.2.2.1 | exact hc.1.2.2.2.2.1 | exact hc.1.2.2.2.2.2.1 | exact hc.1.2.2.2.2.2.2 | exact (hc.2.1 p hp).1 | exact (hc.2.1 p hp).2.1 | exact (hc.2.1 p hp).2.2 | exact (hc.2.2.1 v hv).1.1 | exact (hc.2.2.1 v hv).1.2.1 | exact (hc.2.2.1 v hv).1.2.2.1 | exact (hc.2.2.1 v hv).1.2.2.2.1 | exact (hc.2.2.1 v hv).1.2.2.2.2 | exact (hc.2.2.1 v hv).2 j hj | exact hc.2.2.2.1 i hi | exact (hc.2.2.2.2.1 i hi).1 | exact (hc.2.2.2.2.1 i hi).2 | exact (hc.2.2.2.2.2 i hi).1 | exact (hc.2.2.2.2.2 i hi).2.1 | exact (hc.2.2.2.2.2 i hi).2.2
            · refine ⟨fun k hk h5 hs => ?_, ?_, fun p hp => ?_⟩
              all_goals (try simp only [mu_v, upN, and_self, true_and, and_true, false_and, and_false, ↓reduceIte, eq_self, Nat.reduceEqDiff, Nat.add_left_cancel_iff])
              all_goals (repeat' split)
              all_goals first | with_reducible rfl | omega | exact hm.1 k hk h5 hs | exact hm.2.1 | exact hm.2.2 p hp
            · refine ⟨fun k => ?_, ⟨?_, ?_, ?_, ?_, ?_, ?_, ?_, ?_⟩, fun p hp => ⟨?_, fun hq => ?_, fun hq => ?_, ?_⟩, fun v hv => ⟨?_, ?_, ?_, ?_, ?_, fun j hj => ?_⟩, fun i hi => ?_, fun i hi => ⟨?_, ?_⟩, fun i hi => ⟨?_, ?_, ?_⟩⟩
              all_goals (try simp (disch := omega) only [upN_s, upN_n] at *)
              all_goals (try simp only [upN, and_self, true_and, and_true, false_and, and_false, ↓reduceIte, eq_self])
              all_goals (repeat' split)
              all_goals first | omega | exact hw.1 _ | (have z := hw.2.1; omega) | (have z := hw.2.2.1 p hp; have z2 := hw.2.1; omega) | (have z := hw.2.2.2.1 v (by omega); have z2 := hw.2.1; first | omega | (have z3 := z.2.2.2.2.2 j hj; omega)) | (have z := hw.2.2.2.2.1 i (by omega); omega) | (have z := hw.2.2.2.2.2.1 i (by omega); omega) | (have z := hw.2.2.2.2.2.2 i (by omega); omega)
