/-! place, voter -/
theorem op_place : lw_op_place RR := by
  intro t σl σm a0 a1 a2 hR
  obtain ⟨⟨S, F, hc, hm, hw, hb, htc, htm⟩, hi, ht, hst⟩ := id hR
  have n6 : σl 0 0 = nI (S 6) := hc.1.1
  have n7 : σl 0 1 = nI (S 7) := hc.1.2.1
  have n0 : σl 0 2 = nI (S 0) := hc.1.2.2.1
  have n4 : σl 0 3 = nI (S 4) := hc.1.2.2.2.1
  have n1 : σl 0 4 = nI (S 1) := hc.1.2.2.2.2.1
  have n2 : σl 0 5 = nI (S 2) := hc.1.2.2.2.2.2.1
  have n3 : σl 0 6 = nI (S 3) := hc.1.2.2.2.2.2.2
  have m0 : σm 1 0 = nI (S 0) := hm.1 0 (by omega) (by omega) (by omega)
  have m1 : σm 1 1 = nI (S 1) := hm.1 1 (by omega) (by omega) (by omega)
  have m2 : σm 1 2 = nI (S 2) := hm.1 2 (by omega) (by omega) (by omega)
  have m3 : σm 1 3 = nI (S 3) := hm.1 3 (by omega) (by omega) (by omega)
  have m4 : σm 1 4 = nI (S 4) := hm.1 4 (by omega) (by omega) (by omega)
  have m6 : σm 1 6 = nI (S 6) := hm.1 6 (by omega) (by omega) (by omega)
  have m7 : σm 1 7 = nI (S 7) := hm.1 7 (by omega) (by omega) (by omega)
  have bw := hw.2.1
  have b7 := hw.1 7
  unfold f_X5_place f_X6_place f_X5_mayBecome
  rcases ix_p a0 (S 6) (by omega) with h | ⟨p, hp, rfl⟩
  · simp (disch := first | omega | assumption) only [ev_add, ev_mul, ev_rem, ev_sub, ev_ltT, ev_ltF, ev_leT, ev_leF, ev_eqT, ev_eqF, ev_cl, ev_in, gd_t, bd_s, lt_e, ev_of, ↓reduceIte, decide_true, true_or, or_true, ev_l0, ev_l1, ev_l2, ev_l3, ev_l4, ev_l5, ev_l6, ev_l7, ev_l8, ev_l9, ev_l10, ev_l11, ev_l12, ev_l13, ev_l14, ev_l15, ev_l16, ev_l17, ev_l18, ev_l19, ev_l20, ev_l21, ev_l22, ev_l23, ev_l24, ev_l25, ev_l26, ev_l30, ev_l31, ev_l32, ev_l37, ev_l40, ev_l41, ev_l43, ev_l48, ev_l49, ev_l51, ev_l55, ev_l57, ev_l58, ev_l60, ev_l61, ev_l79, ev_l85, ev_l91, ev_l99, ev_l100, ev_l107, ev_l115, ev_l127, ev_l140, ev_l215, ev_l220, ev_l920, ev_l9999, ev_nT, ev_nF, ev_nlT, ev_nlF, hp_f n6 h, ip_f m6 (by omega) h]
    exact ⟨_, _, _, rfl, rfl, hR⟩
  · rcases ix_p a1 3 (by omega) with h | ⟨k, hk, rfl⟩
    · simp (disch := first | omega | assumption) only [ev_add, ev_mul, ev_rem, ev_sub, ev_ltT, ev_ltF, ev_leT, ev_leF, ev_eqT, ev_eqF, ev_cl, ev_in, gd_t, bd_s, lt_e, ev_of, ↓reduceIte, decide_true, true_or, or_true, ev_l0, ev_l1, ev_l2, ev_l3, ev_l4, ev_l5, ev_l6, ev_l7, ev_l8, ev_l9, ev_l10, ev_l11, ev_l12, ev_l13, ev_l14, ev_l15, ev_l16, ev_l17, ev_l18, ev_l19, ev_l20, ev_l21, ev_l22, ev_l23, ev_l24, ev_l25, ev_l26, ev_l30, ev_l31, ev_l32, ev_l37, ev_l40, ev_l41, ev_l43, ev_l48, ev_l49, ev_l51, ev_l55, ev_l57, ev_l58, ev_l60, ev_l61, ev_l79, ev_l85, ev_l91, ev_l99, ev_l100, ev_l107, ev_l115, ev_l127, ev_l140, ev_l215, ev_l220, ev_l920, ev_l9999, ev_nT, ev_nF, ev_nlT, ev_nlF, wi_e, hp_t n6 hp (by omega), ip_t m6 hp (by omega), show f_X6_in a1 (nI 0) (nI 2) = _ from in_f (n := 3) h (by omega) (by omega)]
      exact ⟨_, _, _, rfl, rfl, hR⟩
    · have c := hc.2.1 p (by omega)
      have d0 := hm.1 (10 + p) (by omega) (by omega) (by omega)
      have d1 := hm.2.2 p (by omega)
      have d2 := hm.1 (24 + p) (by omega) (by omega) (by omega)
      have hk' : k = 0 ∨ k = 1 ∨ k = 2 := by omega
      rcases hk' with rfl | rfl | rfl
      · rcases ix_p a2 (S 6) (by omega) with h | ⟨q, hq, rfl⟩
        · simp (disch := first | omega | assumption) only [ev_add, ev_mul, ev_rem, ev_sub, ev_ltT, ev_ltF, ev_leT, ev_leF, ev_eqT, ev_eqF, ev_cl, ev_in, gd_t, bd_s, lt_e, ev_of, ↓reduceIte, decide_true, true_or, or_true, ev_l0, ev_l1, ev_l2, ev_l3, ev_l4, ev_l5, ev_l6, ev_l7, ev_l8, ev_l9, ev_l10, ev_l11, ev_l12, ev_l13, ev_l14, ev_l15, ev_l16, ev_l17, ev_l18, ev_l19, ev_l20, ev_l21, ev_l22, ev_l23, ev_l24, ev_l25, ev_l26, ev_l30, ev_l31, ev_l32, ev_l37, ev_l40, ev_l41, ev_l43, ev_l48, ev_l49, ev_l51, ev_l55, ev_l57, ev_l58, ev_l60, ev_l61, ev_l79, ev_l85, ev_l91, ev_l99, ev_l100, ev_l107, ev_l115, ev_l127, ev_l140, ev_l215, ev_l220, ev_l920, ev_l9999, ev_nT, ev_nF, ev_nlT, ev_nlF, wi_e, hp_t n6 hp (by omega), ip_t m6 hp (by omega), show f_X6_in (nI 0) (nI 0) (nI 2) = _ from in_t (n := 3) (by omega) (by omega), hp_f n6 h, ip_f m6 (by omega) h]
          exact ⟨_, _, _, rfl, rfl, hR⟩
        · simp (disch := first | omega | assumption) only [ev_add, ev_mul, ev_rem, ev_sub, ev_ltT, ev_ltF, ev_leT, ev_leF, ev_eqT, ev_eqF, ev_cl, ev_in, gd_t, bd_s, lt_e, ev_of, ↓reduceIte, decide_true, true_or, or_true, ev_l0, ev_l1, ev_l2, ev_l3, ev_l4, ev_l5, ev_l6, ev_l7, ev_l8, ev_l9, ev_l10, ev_l11, ev_l12, ev_l13, ev_l14, ev_l15, ev_l16, ev_l17, ev_l18, ev_l19, ev_l20, ev_l21, ev_l22, ev_l23, ev_l24, ev_l25, ev_l26, ev_l30, ev_l31, ev_l32, ev_l37, ev_l40, ev_l41, ev_l43, ev_l48, ev_l49, ev_l51, ev_l55, ev_l57, ev_l58, ev_l60, ev_l61, ev_l79, ev_l85, ev_l91, ev_l99, ev_l100, ev_l107, ev_l115, ev_l127, ev_l140, ev_l215, ev_l220, ev_l920, ev_l9999, ev_nT, ev_nF, ev_nlT, ev_nlF, wi_e, hp_t n6 hp (by omega), ip_t m6 hp (by omega), show f_X6_in (nI 0) (nI 0) (nI 2) = _ from in_t (n := 3) (by omega) (by omega), hp_t n6 hq (by omega), ip_t m6 hq (by omega), b_X6_place_57, ll1, c.1, d0, Nat.reduceMul, Nat.reduceAdd]
          refine ⟨_, _, _, rfl, rfl, RR_new S (upN S (10 + p) q) hi ht hst hw hb htc htm ?_ ?_ ?_ ⟨?_, ?_, ?_, ?_⟩ ?_ ?_ ?_⟩
          · simp (disch := omega) only [upN_n]
          · intro k h1 h2
            simp (disch := omega) only [mu_n]
          · refine ⟨fun j hj => ?_, fun i hi => ?_⟩
            all_goals (simp (disch := omega) only [mu_a, mu_n])
          · rfl
          · rfl
          · rfl
          · rfl
          · refine ⟨⟨?_, ?_, ?_, ?_, ?_, ?_, ?_⟩, fun p hp => ⟨?_, ?_, ?_⟩, fun v hv => ⟨⟨?_, ?_, ?_, ?_, ?_⟩, fun j hj => ?_⟩, fun i hi => ?_, fun i hi => ⟨?_, ?_⟩, fun i hi => ⟨?_, ?_, ?_⟩⟩
            all_goals (try simp only [mu_v, upN, and_self, true_and, and_true, false_and, and_false, ↓reduceIte, eq_self, Nat.reduceEqDiff, Nat.add_left_cancel_iff])
            all_goals (repeat' split)
            all_goals first | rfl | omega | exact hc.1.1 | exact hc.1.2.1 | exact hc.1.2.2.1 | exact hc.1.2.2.2.1 | exact hc.1.2.2.2.2.1 | exact hc.1.2.2.2.2.2.1 | exact hc.1.2.2.2.2.2.2 | exact (hc.2.1 p hp).1 | exact (hc.2.1 p hp).2.1 | exact (hc.2.1 p hp).2.2 | exact (hc.2.2.1 v hv).1.1 | exact (hc.2.2.1 v hv).1.2.1 | exact (hc.2.2.1 v hv).1.2.2.1 | exact (hc.2.2.1 v hv).1.2.2.2.1 | exact (hc.2.2.1 v hv).1.2.2.2.2 | exact (hc.2.2.1 v hv).2 j hj | exact hc.2.2.2.1 i hi | exact (hc.2.2.2.2.1 i hi).1 | exact (hc.2.2.2.2.1 i hi).2 | exact (hc.2.2.2.2.2 i hi).1 | exact (hc.2.2.2.2.2 i hi).2.1 | exact (hc.2.2.2.2.2 i hi).2.2
          · refine ⟨fun k hk h5 hs => ?_, ?_, fun p hp => ?_⟩
            all_goals (try simp only [mu_v, upN, and_self, true_and, and_true, false_and, and_false, ↓reduceIte, eq_self, Nat.reduceEqDiff, Nat.add_left_cancel_iff])
            all_goals (repeat' split)
            all_goals first | rfl | omega | exact hm.1 k hk h5 hs | exact hm.2.1 | exact hm.2.2 p hp
          · refine ⟨fun k => ?_, ⟨?_, ?_, ?_, ?_, ?_, ?_, ?_, ?_⟩, fun p hp => ⟨?_, fun hq => ?_, fun hq => ?_, ?_⟩, fun v hv => ⟨?_, ?_, ?_, ?_, ?_, fun j hj => ?_⟩, fun i hi => ?_, fun i hi => ⟨?_, ?_⟩, fun i hi => ⟨?_, ?_, ?_⟩⟩
            all_goals (try simp (disch := omega) only [upN_s, upN_n] at *)
            all_goals (try simp only [upN, and_self, true_and, and_true, false_and, and_false, ↓reduceIte, eq_self])
            all_goals (repeat' split)
            all_goals first | omega | exact hw.1 _ | (have z := hw.2.1; omega) | (have z := hw.2.2.1 p hp; have z2 := hw.2.1; omega) | (have z := hw.2.2.2.1 v (by omega); have z2 := hw.2.1; first | omega | (have z3 := z.2.2.2.2.2 j hj; omega)) | (have z := hw.2.2.2.2.1 i (by omega); omega) | (have z := hw.2.2.2.2.2.1 i (by omega); omega) | (have z := hw.2.2.2.2.2.2 i (by omega); omega)
      · have fin : ∀ (x : Int32) (y : Nat), x = nI y - 1 → y ≤ S 6 → RR t (jx_mu σl (1 + p) 1 x) (jx_mu σm 1 (17 + p) x) := by
          intro x y hx hy
          refine RR_new S (upN S (17 + p) y) hi ht hst hw hb htc htm ?_ ?_ ?_ ⟨?_, ?_, ?_, ?_⟩ ?_ ?_ ?_
          · simp (disch := omega) only [upN_n]
          · intro k h1 h2
            simp (disch := omega) only [mu_n]
          · refine ⟨fun j hj => ?_, fun i hi => ?_⟩
            all_goals (simp (disch := omega) only [mu_a, mu_n])
          · rfl
          · rfl
          · rfl
          · rfl
          · refine ⟨?_, fun q hq => ?_, fun v hv => ?_, fun i hi => ?_, fun i hi => ?_, fun i hi => ?_⟩
            · simp (disch := omega) only [mu_a, upN_n]
              exact hc.1
            · by_cases e : q = p
              · subst e
                simp (disch := omega) only [mu_n, mu_s, upN_s, upN_n]
                exact ⟨c.1, hx, c.2.2⟩
              · simp (disch := omega) only [mu_a, upN_n]
                exact hc.2.1 q hq
            · simp (disch := omega) only [mu_a, upN_n]
              exact hc.2.2.1 v hv
            · simp (disch := omega) only [mu_a, upN_n]
              exact hc.2.2.2.1 i hi
            · simp (disch := omega) only [mu_a, upN_n]
              exact hc.2.2.2.2.1 i hi
            · simp (disch := omega) only [mu_a, upN_n]
              exact hc.2.2.2.2.2 i hi
          · refine ⟨fun k hk h5 hs => ?_, ?_, fun q hq => ?_⟩
            · simp (disch := omega) only [mu_n, upN_n]
              exact hm.1 k hk h5 hs
            · simp (disch := omega) only [mu_n, upN_n]
              exact hm.2.1
            · by_cases e : q = p
              · subst e
                rw [mu_s, upN_s]; exact hx
              · simp (disch := omega) only [mu_n, upN_n]
                exact hm.2.2 q hq
          · refine ⟨fun k => ?_, ⟨?_, ?_, ?_, ?_, ?_, ?_, ?_, ?_⟩, fun p hp => ⟨?_, fun hq => ?_, fun hq => ?_, ?_⟩, fun v hv => ⟨?_, ?_, ?_, ?_, ?_, fun j hj => ?_⟩, fun i hi => ?_, fun i hi => ⟨?_, ?_⟩, fun i hi => ⟨?_, ?_, ?_⟩⟩
            all_goals (try simp (disch := omega) only [upN_s, upN_n] at *)
            all_goals (try simp only [upN, and_self, true_and, and_true, false_and, and_false, ↓reduceIte, eq_self])
            all_goals (repeat' split)
            all_goals first | omega | exact hw.1 _ | (have z := hw.2.1; omega) | (have z := hw.2.2.1 p hp; have z2 := hw.2.1; omega) | (have z := hw.2.2.2.1 v (by omega); have z2 := hw.2.1; first | omega | (have z3 := z.2.2.2.2.2 j hj; omega)) | (have z := hw.2.2.2.2.1 i (by omega); omega) | (have z := hw.2.2.2.2.2.1 i (by omega); omega) | (have z := hw.2.2.2.2.2.2 i (by omega); omega)
        rcases ix_p a2 (S 6) (by omega) with h | ⟨q, hq, rfl⟩
        · by_cases z : a2 = -1
          · subst z
            simp (disch := first | omega | assumption) only [ev_add, ev_mul, ev_rem, ev_sub, ev_ltT, ev_ltF, ev_leT, ev_leF, ev_eqT, ev_eqF, ev_cl, ev_in, gd_t, bd_s, lt_e, ev_of, ↓reduceIte, decide_true, true_or, or_true, ev_l0, ev_l1, ev_l2, ev_l3, ev_l4, ev_l5, ev_l6, ev_l7, ev_l8, ev_l9, ev_l10, ev_l11, ev_l12, ev_l13, ev_l14, ev_l15, ev_l16, ev_l17, ev_l18, ev_l19, ev_l20, ev_l21, ev_l22, ev_l23, ev_l24, ev_l25, ev_l26, ev_l30, ev_l31, ev_l32, ev_l37, ev_l40, ev_l41, ev_l43, ev_l48, ev_l49, ev_l51, ev_l55, ev_l57, ev_l58, ev_l60, ev_l61, ev_l79, ev_l85, ev_l91, ev_l99, ev_l100, ev_l107, ev_l115, ev_l127, ev_l140, ev_l215, ev_l220, ev_l920, ev_l9999, ev_nT, ev_nF, ev_nlT, ev_nlF, wi_e, hp_t n6 hp (by omega), ip_t m6 hp (by omega), show f_X6_in (nI 1) (nI 0) (nI 2) = _ from in_t (n := 3) (by omega) (by omega), show f_X1_hasPlace t σl (-nI 1) = _ from hp_f n6 h, show f_X6_isPlace σm (-nI 1) = _ from ip_f m6 (by omega) h, b_X6_place_57, ll1, c.2.1, d1, Nat.reduceMul, Nat.reduceAdd]
            exact ⟨_, _, _, rfl, rfl, fin (-nI 1) 0 (by decide) (by omega)⟩
          · have z' : (a2 = -nI 1) = False := eq_false z
            simp (disch := first | omega | assumption) only [ev_add, ev_mul, ev_rem, ev_sub, ev_ltT, ev_ltF, ev_leT, ev_leF, ev_eqT, ev_eqF, ev_cl, ev_in, gd_t, bd_s, lt_e, ev_of, ↓reduceIte, decide_true, true_or, or_true, ev_l0, ev_l1, ev_l2, ev_l3, ev_l4, ev_l5, ev_l6, ev_l7, ev_l8, ev_l9, ev_l10, ev_l11, ev_l12, ev_l13, ev_l14, ev_l15, ev_l16, ev_l17, ev_l18, ev_l19, ev_l20, ev_l21, ev_l22, ev_l23, ev_l24, ev_l25, ev_l26, ev_l30, ev_l31, ev_l32, ev_l37, ev_l40, ev_l41, ev_l43, ev_l48, ev_l49, ev_l51, ev_l55, ev_l57, ev_l58, ev_l60, ev_l61, ev_l79, ev_l85, ev_l91, ev_l99, ev_l100, ev_l107, ev_l115, ev_l127, ev_l140, ev_l215, ev_l220, ev_l920, ev_l9999, ev_nT, ev_nF, ev_nlT, ev_nlF, wi_e, hp_t n6 hp (by omega), ip_t m6 hp (by omega), show f_X6_in (nI 1) (nI 0) (nI 2) = _ from in_t (n := 3) (by omega) (by omega), hp_f n6 h, ip_f m6 (by omega) h, z']
            exact ⟨_, _, _, rfl, rfl, hR⟩
        · simp (disch := first | omega | assumption) only [ev_add, ev_mul, ev_rem, ev_sub, ev_ltT, ev_ltF, ev_leT, ev_leF, ev_eqT, ev_eqF, ev_cl, ev_in, gd_t, bd_s, lt_e, ev_of, ↓reduceIte, decide_true, true_or, or_true, ev_l0, ev_l1, ev_l2, ev_l3, ev_l4, ev_l5, ev_l6, ev_l7, ev_l8, ev_l9, ev_l10, ev_l11, ev_l12, ev_l13, ev_l14, ev_l15, ev_l16, ev_l17, ev_l18, ev_l19, ev_l20, ev_l21, ev_l22, ev_l23, ev_l24, ev_l25, ev_l26, ev_l30, ev_l31, ev_l32, ev_l37, ev_l40, ev_l41, ev_l43, ev_l48, ev_l49, ev_l51, ev_l55, ev_l57, ev_l58, ev_l60, ev_l61, ev_l79, ev_l85, ev_l91, ev_l99, ev_l100, ev_l107, ev_l115, ev_l127, ev_l140, ev_l215, ev_l220, ev_l920, ev_l9999, ev_nT, ev_nF, ev_nlT, ev_nlF, wi_e, hp_t n6 hp (by omega), ip_t m6 hp (by omega), show f_X6_in (nI 1) (nI 0) (nI 2) = _ from in_t (n := 3) (by omega) (by omega), hp_t n6 hq (by omega), ip_t m6 hq (by omega), b_X6_place_57, ll1, c.2.1, d1, Nat.reduceMul, Nat.reduceAdd]
          exact ⟨_, _, _, rfl, rfl, fin (nI q) (q + 1) (nI_pred q).symm (by omega)⟩
      · rcases ix_p a2 3 (by omega) with h | ⟨q, hq, rfl⟩
        · simp (disch := first | omega | assumption) only [ev_add, ev_mul, ev_rem, ev_sub, ev_ltT, ev_ltF, ev_leT, ev_leF, ev_eqT, ev_eqF, ev_cl, ev_in, gd_t, bd_s, lt_e, ev_of, ↓reduceIte, decide_true, true_or, or_true, ev_l0, ev_l1, ev_l2, ev_l3, ev_l4, ev_l5, ev_l6, ev_l7, ev_l8, ev_l9, ev_l10, ev_l11, ev_l12, ev_l13, ev_l14, ev_l15, ev_l16, ev_l17, ev_l18, ev_l19, ev_l20, ev_l21, ev_l22, ev_l23, ev_l24, ev_l25, ev_l26, ev_l30, ev_l31, ev_l32, ev_l37, ev_l40, ev_l41, ev_l43, ev_l48, ev_l49, ev_l51, ev_l55, ev_l57, ev_l58, ev_l60, ev_l61, ev_l79, ev_l85, ev_l91, ev_l99, ev_l100, ev_l107, ev_l115, ev_l127, ev_l140, ev_l215, ev_l220, ev_l920, ev_l9999, ev_nT, ev_nF, ev_nlT, ev_nlF, wi_e, hp_t n6 hp (by omega), ip_t m6 hp (by omega), show f_X6_in (nI 2) (nI 0) (nI 2) = _ from in_t (n := 3) (by omega) (by omega), show f_X6_in a2 (nI 0) (nI 2) = _ from in_f (n := 3) h (by omega) (by omega)]
          exact ⟨_, _, _, rfl, rfl, hR⟩
        · simp (disch := first | omega | assumption) only [ev_add, ev_mul, ev_rem, ev_sub, ev_ltT, ev_ltF, ev_leT, ev_leF, ev_eqT, ev_eqF, ev_cl, ev_in, gd_t, bd_s, lt_e, ev_of, ↓reduceIte, decide_true, true_or, or_true, ev_l0, ev_l1, ev_l2, ev_l3, ev_l4, ev_l5, ev_l6, ev_l7, ev_l8, ev_l9, ev_l10, ev_l11, ev_l12, ev_l13, ev_l14, ev_l15, ev_l16, ev_l17, ev_l18, ev_l19, ev_l20, ev_l21, ev_l22, ev_l23, ev_l24, ev_l25, ev_l26, ev_l30, ev_l31, ev_l32, ev_l37, ev_l40, ev_l41, ev_l43, ev_l48, ev_l49, ev_l51, ev_l55, ev_l57, ev_l58, ev_l60, ev_l61, ev_l79, ev_l85, ev_l91, ev_l99, ev_l100, ev_l107, ev_l115, ev_l127, ev_l140, ev_l215, ev_l220, ev_l920, ev_l9999, ev_nT, ev_nF, ev_nlT, ev_nlF, wi_e, hp_t n6 hp (by omega), ip_t m6 hp (by omega), show f_X6_in (nI 2) (nI 0) (nI 2) = _ from in_t (n := 3) (by omega) (by omega), show f_X6_in (nI q) (nI 0) (nI 2) = _ from in_t (n := 3) hq (by omega), b_X6_place_57, ll1, c.2.2, d2, Nat.reduceMul, Nat.reduceAdd]
          refine ⟨_, _, _, rfl, rfl, RR_new S (upN S (24 + p) q) hi ht hst hw hb htc htm ?_ ?_ ?_ ⟨?_, ?_, ?_, ?_⟩ ?_ ?_ ?_⟩
          · simp (disch := omega) only [upN_n]
          · intro k h1 h2
            simp (disch := omega) only [mu_n]
          · refine ⟨fun j hj => ?_, fun i hi => ?_⟩
            all_goals (simp (disch := omega) only [mu_a, mu_n])
          · rfl
          · rfl
          · rfl
          · rfl
          · refine ⟨⟨?_, ?_, ?_, ?_, ?_, ?_, ?_⟩, fun p hp => ⟨?_, ?_, ?_⟩, fun v hv => ⟨⟨?_, ?_, ?_, ?_, ?_⟩, fun j hj => ?_⟩, fun i hi => ?_, fun i hi => ⟨?_, ?_⟩, fun i hi => ⟨?_, ?_, ?_⟩⟩
            all_goals (try simp only [mu_v, upN, and_self, true_and, and_true, false_and, and_false, ↓reduceIte, eq_self, Nat.reduceEqDiff, Nat.add_left_cancel_iff])
            all_goals (repeat' split)
            all_goals first | rfl | omega | exact hc.1.1 | exact hc.1.2.1 | exact hc.1.2.2.1 | exact hc.1.2.2.2.1 | exact hc.1.2.2.2.2.1 | exact hc.1.2.2.2.2.2.1 | exact hc.1.2.2.2.2.2.2 | exact (hc.2.1 p hp).1 | exact (hc.2.1 p hp).2.1 | exact (hc.2.1 p hp).2.2 | exact (hc.2.2.1 v hv).1.1 | exact (hc.2.2.1 v hv).1.2.1 | exact (hc.2.2.1 v hv).1.2.2.1 | exact (hc.2.2.1 v hv).1.2.2.2.1 | exact (hc.2.2.1 v hv).1.2.2.2.2 | exact (hc.2.2.1 v hv).2 j hj | exact hc.2.2.2.1 i hi | exact (hc.2.2.2.2.1 i hi).1 | exact (hc.2.2.2.2.1 i hi).2 | exact (hc.2.2.2.2.2 i hi).1 | exact (hc.2.2.2.2.2 i hi).2.1 | exact (hc.2.2.2.2.2 i hi).2.2
          · refine ⟨fun k hk h5 hs => ?_, ?_, fun p hp => ?_⟩
            all_goals (try simp only [mu_v, upN, and_self, true_and, and_true, false_and, and_false, ↓reduceIte, eq_self, Nat.reduceEqDiff, Nat.add_left_cancel_iff])
            all_goals (repeat' split)
            all_goals first | rfl | omega | exact hm.1 k hk h5 hs | exact hm.2.1 | exact hm.2.2 p hp
          · refine ⟨fun k => ?_, ⟨?_, ?_, ?_, ?_, ?_, ?_, ?_, ?_⟩, fun p hp => ⟨?_, fun hq => ?_, fun hq => ?_, ?_⟩, fun v hv => ⟨?_, ?_, ?_, ?_, ?_, fun j hj => ?_⟩, fun i hi => ?_, fun i hi => ⟨?_, ?_⟩, fun i hi => ⟨?_, ?_, ?_⟩⟩
            all_goals (try simp (disch := omega) only [upN_s, upN_n] at *)
            all_goals (try simp only [upN, and_self, true_and, and_true, false_and, and_false, ↓reduceIte, eq_self])
            all_goals (repeat' split)
            all_goals first | omega | exact hw.1 _ | (have z := hw.2.1; omega) | (have z := hw.2.2.1 p hp; have z2 := hw.2.1; omega) | (have z := hw.2.2.2.1 v (by omega); have z2 := hw.2.1; first | omega | (have z3 := z.2.2.2.2.2 j hj; omega)) | (have z := hw.2.2.2.2.1 i (by omega); omega) | (have z := hw.2.2.2.2.2.1 i (by omega); omega) | (have z := hw.2.2.2.2.2.2 i (by omega); omega)
theorem cl_fillr {t : jx_T} {σ : jx_M} {a : Nat} (ha : 1 ≤ a ∧ a ≤ 65) {N : Nat} (hl : ll_len a = N) (hN : N < 900) : ∃ σ', f_J7_fill_53178 t σ a (nI 0) = some σ' ∧ (∀ b, ¬ b = a → σ' b = σ b) ∧ ∀ q, q < N → σ' a q = nI 0 := by
  unfold f_J7_fill_53178
  rw [hl, show (decide (1 ≤ a ∧ a ≤ 65)) = true from decide_eq_true ha, gd_t, lt_e]
  refine lq_ (fun n i τ => ∃ σ', b_J7_fill_53178_5 t n τ a (nI 0) (nI i) (nI N) = some σ' ∧ (∀ b, ¬ b = a → σ' b = σ b) ∧ ∀ q, q < N → σ' a q = nI 0) (fun i τ => (∀ b, ¬ b = a → τ b = σ b) ∧ ∀ q, q < i → τ a q = nI 0) N ?_ ?_ 0 σ (by omega) (by omega) ⟨fun _ _ => rfl, fun q hq => absurd hq (by omega)⟩
  · intro n τ ⟨i1, i2⟩
    simp only [b_J7_fill_53178_5, g_J7_fill_53178_5]
    simp (disch := first | omega | assumption) only [ev_add, ev_mul, ev_rem, ev_sub, ev_ltT, ev_ltF, ev_leT, ev_leF, ev_eqT, ev_eqF, ev_cl, ev_in, gd_t, bd_s, lt_e, ev_of, ↓reduceIte, decide_true, true_or, or_true, ev_l0, ev_l1, ev_l2, ev_l3, ev_l4, ev_l5, ev_l6, ev_l7, ev_l8, ev_l9, ev_l10, ev_l11, ev_l12, ev_l13, ev_l14, ev_l15, ev_l16, ev_l17, ev_l18, ev_l19, ev_l20, ev_l21, ev_l22, ev_l23, ev_l24, ev_l25, ev_l26, ev_l30, ev_l31, ev_l32, ev_l37, ev_l40, ev_l41, ev_l43, ev_l48, ev_l49, ev_l51, ev_l55, ev_l57, ev_l58, ev_l60, ev_l61, ev_l79, ev_l85, ev_l91, ev_l99, ev_l100, ev_l107, ev_l115, ev_l127, ev_l140, ev_l215, ev_l220, ev_l920, ev_l9999, ev_nT, ev_nF, ev_nlT, ev_nlF]
    exact ⟨_, rfl, i1, i2⟩
  · intro n i τ hi ⟨i1, i2⟩ ih
    simp only [b_J7_fill_53178_5, g_J7_fill_53178_5]
    simp (disch := first | omega | assumption) only [ev_add, ev_mul, ev_rem, ev_sub, ev_ltT, ev_ltF, ev_leT, ev_leF, ev_eqT, ev_eqF, ev_cl, ev_in, gd_t, bd_s, lt_e, ev_of, ↓reduceIte, decide_true, true_or, or_true, ev_l0, ev_l1, ev_l2, ev_l3, ev_l4, ev_l5, ev_l6, ev_l7, ev_l8, ev_l9, ev_l10, ev_l11, ev_l12, ev_l13, ev_l14, ev_l15, ev_l16, ev_l17, ev_l18, ev_l19, ev_l20, ev_l21, ev_l22, ev_l23, ev_l24, ev_l25, ev_l26, ev_l30, ev_l31, ev_l32, ev_l37, ev_l40, ev_l41, ev_l43, ev_l48, ev_l49, ev_l51, ev_l55, ev_l57, ev_l58, ev_l60, ev_l61, ev_l79, ev_l85, ev_l91, ev_l99, ev_l100, ev_l107, ev_l115, ev_l127, ev_l140, ev_l215, ev_l220, ev_l920, ev_l9999, ev_nT, ev_nF, ev_nlT, ev_nlF, hl]
    refine ih _ ⟨fun b hb => ?_, fun q hq => ?_⟩
    · rw [mu_a hb]; exact i1 b hb
    · by_cases e : q = i
      · subst e; exact mu_s
      · rw [mu_n e]; exact i2 q (by omega)
theorem cm_vrow {σ : jx_M} {v : Nat} (hv : v < 6) (m0 : σ 1 0 = nI v) : ∃ σ', b_X6_voter_136 jx_fuel σ (nI v) (nI 0) = some (nI v, σ') ∧ (∀ b, ¬ b = 1 → σ' b = σ b) ∧ (∀ i, ¬ i = 0 → ¬ (61 + 3 * v ≤ i ∧ i < 64 + 3 * v) → σ' 1 i = σ 1 i) ∧ σ' 1 0 = nI (v + 1) ∧ ∀ j, j < 3 → σ' 1 (61 + 3 * v + j) = nI 0 := by
  refine lq_ (fun n i τ => ∃ σ', b_X6_voter_136 n τ (nI v) (nI i) = some (nI v, σ') ∧ (∀ b, ¬ b = 1 → σ' b = σ b) ∧ (∀ i, ¬ i = 0 → ¬ (61 + 3 * v ≤ i ∧ i < 64 + 3 * v) → σ' 1 i = σ 1 i) ∧ σ' 1 0 = nI (v + 1) ∧ ∀ j, j < 3 → σ' 1 (61 + 3 * v + j) = nI 0) (fun i τ => (∀ b, ¬ b = 1 → τ b = σ b) ∧ (∀ i, ¬ (61 + 3 * v ≤ i ∧ i < 64 + 3 * v) → τ 1 i = σ 1 i) ∧ ∀ j, j < i → τ 1 (61 + 3 * v + j) = nI 0) 3 ?_ ?_ 0 σ (by omega) (by omega) ⟨fun _ _ => rfl, fun _ _ => rfl, fun q hq => absurd hq (by omega)⟩
  · intro n τ ⟨i1, i2, i3⟩
    have t0 : τ 1 0 = nI v := by rw [i2 0 (by omega)]; exact m0
    simp only [b_X6_voter_136, g_X6_voter_136]
    simp (disch := first | omega | assumption) only [ev_add, ev_mul, ev_rem, ev_sub, ev_ltT, ev_ltF, ev_leT, ev_leF, ev_eqT, ev_eqF, ev_cl, ev_in, gd_t, bd_s, lt_e, ev_of, ↓reduceIte, decide_true, true_or, or_true, ev_l0, ev_l1, ev_l2, ev_l3, ev_l4, ev_l5, ev_l6, ev_l7, ev_l8, ev_l9, ev_l10, ev_l11, ev_l12, ev_l13, ev_l14, ev_l15, ev_l16, ev_l17, ev_l18, ev_l19, ev_l20, ev_l21, ev_l22, ev_l23, ev_l24, ev_l25, ev_l26, ev_l30, ev_l31, ev_l32, ev_l37, ev_l40, ev_l41, ev_l43, ev_l48, ev_l49, ev_l51, ev_l55, ev_l57, ev_l58, ev_l60, ev_l61, ev_l79, ev_l85, ev_l91, ev_l99, ev_l100, ev_l107, ev_l115, ev_l127, ev_l140, ev_l215, ev_l220, ev_l920, ev_l9999, ev_nT, ev_nF, ev_nlT, ev_nlF, t0]
    refine ⟨_, rfl, fun b hb => ?_, fun i h0 hi => ?_, mu_s, fun j hj => ?_⟩
    · rw [mu_a hb]; exact i1 b hb
    · rw [mu_n h0]; exact i2 i hi
    · rw [mu_n (by omega)]; exact i3 j hj
  · intro n i τ hi ⟨i1, i2, i3⟩ ih
    simp only [b_X6_voter_136, g_X6_voter_136]
    simp (disch := first | omega | assumption) only [ev_add, ev_mul, ev_rem, ev_sub, ev_ltT, ev_ltF, ev_leT, ev_leF, ev_eqT, ev_eqF, ev_cl, ev_in, gd_t, bd_s, lt_e, ev_of, ↓reduceIte, decide_true, true_or, or_true, ev_l0, ev_l1, ev_l2, ev_l3, ev_l4, ev_l5, ev_l6, ev_l7, ev_l8, ev_l9, ev_l10, ev_l11, ev_l12, ev_l13, ev_l14, ev_l15, ev_l16, ev_l17, ev_l18, ev_l19, ev_l20, ev_l21, ev_l22, ev_l23, ev_l24, ev_l25, ev_l26, ev_l30, ev_l31, ev_l32, ev_l37, ev_l40, ev_l41, ev_l43, ev_l48, ev_l49, ev_l51, ev_l55, ev_l57, ev_l58, ev_l60, ev_l61, ev_l79, ev_l85, ev_l91, ev_l99, ev_l100, ev_l107, ev_l115, ev_l127, ev_l140, ev_l215, ev_l220, ev_l920, ev_l9999, ev_nT, ev_nF, ev_nlT, ev_nlF]
    refine ih _ ⟨fun b hb => ?_, fun j hj => ?_, fun j hj => ?_⟩
    · rw [mu_a hb]; exact i1 b hb
    · rw [mu_n (by omega)]; exact i2 j hj
    · by_cases e : j = i
      · subst e; exact mu_s
      · rw [mu_n (by omega)]; exact i3 j (by omega)
def vs_ (S : Nat → Nat) (n k v h w o j : Nat) : Nat := if j = 0 then n + 1 else if j = 31 + n then k else if j = 37 + n then v else if j = 43 + n then h else if j = 49 + n then w else if j = 55 + n then o else if 61 + 3 * n ≤ j ∧ j < 64 + 3 * n then 0 else S j
theorem vs_0 {S : Nat → Nat} {n k v h w o : Nat} : vs_ S n k v h w o 0 = n + 1 := rfl
theorem vs_1 {S : Nat → Nat} {n k v h w o : Nat} : vs_ S n k v h w o (31 + n) = k := by unfold vs_; rw [if_neg (by omega), if_pos rfl]
theorem vs_2 {S : Nat → Nat} {n k v h w o : Nat} (hn : n < 6) : vs_ S n k v h w o (37 + n) = v := by unfold vs_; rw [if_neg (by omega), if_neg (by omega), if_pos rfl]
theorem vs_3 {S : Nat → Nat} {n k v h w o : Nat} (hn : n < 6) : vs_ S n k v h w o (43 + n) = h := by unfold vs_; rw [if_neg (by omega), if_neg (by omega), if_neg (by omega), if_pos rfl]
theorem vs_4 {S : Nat → Nat} {n k v h w o : Nat} (hn : n < 6) : vs_ S n k v h w o (49 + n) = w := by unfold vs_; rw [if_neg (by omega), if_neg (by omega), if_neg (by omega), if_neg (by omega), if_pos rfl]
theorem vs_5 {S : Nat → Nat} {n k v h w o : Nat} (hn : n < 6) : vs_ S n k v h w o (55 + n) = o := by unfold vs_; rw [if_neg (by omega), if_neg (by omega), if_neg (by omega), if_neg (by omega), if_neg (by omega), if_pos rfl]
theorem vs_6 {S : Nat → Nat} {n k v h w o j : Nat} (hn : n < 6) (hj : j < 3) : vs_ S n k v h w o (61 + 3 * n + j) = 0 := by unfold vs_; rw [if_neg (by omega), if_neg (by omega), if_neg (by omega), if_neg (by omega), if_neg (by omega), if_neg (by omega), if_pos (by omega)]
theorem vs_o {S : Nat → Nat} {n k v h w o j : Nat} (h0 : ¬ j = 0) (h1 : ¬ j = 31 + n) (h2 : ¬ j = 37 + n) (h3 : ¬ j = 43 + n) (h4 : ¬ j = 49 + n) (h5 : ¬ j = 55 + n) (h6 : ¬ (61 + 3 * n ≤ j ∧ j < 64 + 3 * n)) : vs_ S n k v h w o j = S j := by
  unfold vs_
  rw [if_neg h0, if_neg h1, if_neg h2, if_neg h3, if_neg h4, if_neg h5, if_neg h6]
theorem op_voter : lw_op_voter RR := by
  intro t σl σm a0 a1 a2 a3 a4 hR
  obtain ⟨⟨S, F, hc, hm, hw, hb, htc, htm⟩, hi, ht, hst⟩ := id hR
  have n6 : σl 0 0 = nI (S 6) := hc.1.1
  have n7 : σl 0 1 = nI (S 7) := hc.1.2.1
  have n0 : σl 0 2 = nI (S 0) := hc.1.2.2.1
  have n4 : σl 0 3 = nI (S 4) := hc.1.2.2.2.1
  have n1 : σl 0 4 = nI (S 1) := hc.1.2.2.2.2.1
  have n2 : σl 0 5 = nI (S 2) := hc.1.2.2.2.2.2.1
  have n3 : σl 0 6 = nI (S 3) := hc.1.2.2.2.2.2.2
  have m0 : σm 1 0 = nI (S 0) := hm.1 0 (by omega) (by omega) (by omega)
  have m1 : σm 1 1 = nI (S 1) := hm.1 1 (by omega) (by omega) (by omega)
  have m2 : σm 1 2 = nI (S 2) := hm.1 2 (by omega) (by omega) (by omega)
  have m3 : σm 1 3 = nI (S 3) := hm.1 3 (by omega) (by omega) (by omega)
  have m4 : σm 1 4 = nI (S 4) := hm.1 4 (by omega) (by omega) (by omega)
  have m6 : σm 1 6 = nI (S 6) := hm.1 6 (by omega) (by omega) (by omega)
  have m7 : σm 1 7 = nI (S 7) := hm.1 7 (by omega) (by omega) (by omega)
  have bw := hw.2.1
  have b7 := hw.1 7
  unfold f_X5_voter f_X6_voter
  rcases ix_p a0 7 (by omega) with h | ⟨k, hk, rfl⟩
  · simp (disch := first | omega | assumption) only [ev_add, ev_mul, ev_rem, ev_sub, ev_ltT, ev_ltF, ev_leT, ev_leF, ev_eqT, ev_eqF, ev_cl, ev_in, gd_t, bd_s, lt_e, ev_of, ↓reduceIte, decide_true, true_or, or_true, ev_l0, ev_l1, ev_l2, ev_l3, ev_l4, ev_l5, ev_l6, ev_l7, ev_l8, ev_l9, ev_l10, ev_l11, ev_l12, ev_l13, ev_l14, ev_l15, ev_l16, ev_l17, ev_l18, ev_l19, ev_l20, ev_l21, ev_l22, ev_l23, ev_l24, ev_l25, ev_l26, ev_l30, ev_l31, ev_l32, ev_l37, ev_l40, ev_l41, ev_l43, ev_l48, ev_l49, ev_l51, ev_l55, ev_l57, ev_l58, ev_l60, ev_l61, ev_l79, ev_l85, ev_l91, ev_l99, ev_l100, ev_l107, ev_l115, ev_l127, ev_l140, ev_l215, ev_l220, ev_l920, ev_l9999, ev_nT, ev_nF, ev_nlT, ev_nlF, wi_e, show f_X6_in a0 (nI 0) (nI 6) = _ from in_f (n := 7) h (by omega) (by omega)]
    exact ⟨_, _, _, rfl, rfl, hR⟩
  · have ek : f_X6_in (nI k) (nI 0) (nI 6) = _ := in_t (n := 7) hk (by omega)
    rcases ix_p a2 (S 6) (by omega) with h | ⟨p, hp, rfl⟩
    · simp (disch := first | omega | assumption) only [ev_add, ev_mul, ev_rem, ev_sub, ev_ltT, ev_ltF, ev_leT, ev_leF, ev_eqT, ev_eqF, ev_cl, ev_in, gd_t, bd_s, lt_e, ev_of, ↓reduceIte, decide_true, true_or, or_true, ev_l0, ev_l1, ev_l2, ev_l3, ev_l4, ev_l5, ev_l6, ev_l7, ev_l8, ev_l9, ev_l10, ev_l11, ev_l12, ev_l13, ev_l14, ev_l15, ev_l16, ev_l17, ev_l18, ev_l19, ev_l20, ev_l21, ev_l22, ev_l23, ev_l24, ev_l25, ev_l26, ev_l30, ev_l31, ev_l32, ev_l37, ev_l40, ev_l41, ev_l43, ev_l48, ev_l49, ev_l51, ev_l55, ev_l57, ev_l58, ev_l60, ev_l61, ev_l79, ev_l85, ev_l91, ev_l99, ev_l100, ev_l107, ev_l115, ev_l127, ev_l140, ev_l215, ev_l220, ev_l920, ev_l9999, ev_nT, ev_nF, ev_nlT, ev_nlF, wi_e, ek, hp_f n6 h, ip_f m6 (by omega) h]
      exact ⟨_, _, _, rfl, rfl, hR⟩
    · rcases ix_p a1 10 (by omega) with h | ⟨v, hv, rfl⟩
      · simp (disch := first | omega | assumption) only [ev_add, ev_mul, ev_rem, ev_sub, ev_ltT, ev_ltF, ev_leT, ev_leF, ev_eqT, ev_eqF, ev_cl, ev_in, gd_t, bd_s, lt_e, ev_of, ↓reduceIte, decide_true, true_or, or_true, ev_l0, ev_l1, ev_l2, ev_l3, ev_l4, ev_l5, ev_l6, ev_l7, ev_l8, ev_l9, ev_l10, ev_l11, ev_l12, ev_l13, ev_l14, ev_l15, ev_l16, ev_l17, ev_l18, ev_l19, ev_l20, ev_l21, ev_l22, ev_l23, ev_l24, ev_l25, ev_l26, ev_l30, ev_l31, ev_l32, ev_l37, ev_l40, ev_l41, ev_l43, ev_l48, ev_l49, ev_l51, ev_l55, ev_l57, ev_l58, ev_l60, ev_l61, ev_l79, ev_l85, ev_l91, ev_l99, ev_l100, ev_l107, ev_l115, ev_l127, ev_l140, ev_l215, ev_l220, ev_l920, ev_l9999, ev_nT, ev_nF, ev_nlT, ev_nlF, wi_e, ek, hp_t n6 hp (by omega), ip_t m6 hp (by omega), show f_X6_in a1 (nI 0) (nI 9) = _ from in_f (n := 10) h (by omega) (by omega)]
        exact ⟨_, _, _, rfl, rfl, hR⟩
      · have ev : f_X6_in (nI v) (nI 0) (nI 9) = _ := in_t (n := 10) hv (by omega)
        rcases ix_p a3 2 (by omega) with h | ⟨w, hw2, rfl⟩
        · simp (disch := first | omega | assumption) only [ev_add, ev_mul, ev_rem, ev_sub, ev_ltT, ev_ltF, ev_leT, ev_leF, ev_eqT, ev_eqF, ev_cl, ev_in, gd_t, bd_s, lt_e, ev_of, ↓reduceIte, decide_true, true_or, or_true, ev_l0, ev_l1, ev_l2, ev_l3, ev_l4, ev_l5, ev_l6, ev_l7, ev_l8, ev_l9, ev_l10, ev_l11, ev_l12, ev_l13, ev_l14, ev_l15, ev_l16, ev_l17, ev_l18, ev_l19, ev_l20, ev_l21, ev_l22, ev_l23, ev_l24, ev_l25, ev_l26, ev_l30, ev_l31, ev_l32, ev_l37, ev_l40, ev_l41, ev_l43, ev_l48, ev_l49, ev_l51, ev_l55, ev_l57, ev_l58, ev_l60, ev_l61, ev_l79, ev_l85, ev_l91, ev_l99, ev_l100, ev_l107, ev_l115, ev_l127, ev_l140, ev_l215, ev_l220, ev_l920, ev_l9999, ev_nT, ev_nF, ev_nlT, ev_nlF, wi_e, ek, hp_t n6 hp (by omega), ip_t m6 hp (by omega), ev, show f_X6_in a3 (nI 0) (nI 1) = _ from in_f (n := 2) h (by omega) (by omega)]
          exact ⟨_, _, _, rfl, rfl, hR⟩
        · have ew : f_X6_in (nI w) (nI 0) (nI 1) = _ := in_t (n := 2) hw2 (by omega)
          rcases ix_p a4 13 (by omega) with h | ⟨o, ho, rfl⟩
          · simp (disch := first | omega | assumption) only [ev_add, ev_mul, ev_rem, ev_sub, ev_ltT, ev_ltF, ev_leT, ev_leF, ev_eqT, ev_eqF, ev_cl, ev_in, gd_t, bd_s, lt_e, ev_of, ↓reduceIte, decide_true, true_or, or_true, ev_l0, ev_l1, ev_l2, ev_l3, ev_l4, ev_l5, ev_l6, ev_l7, ev_l8, ev_l9, ev_l10, ev_l11, ev_l12, ev_l13, ev_l14, ev_l15, ev_l16, ev_l17, ev_l18, ev_l19, ev_l20, ev_l21, ev_l22, ev_l23, ev_l24, ev_l25, ev_l26, ev_l30, ev_l31, ev_l32, ev_l37, ev_l40, ev_l41, ev_l43, ev_l48, ev_l49, ev_l51, ev_l55, ev_l57, ev_l58, ev_l60, ev_l61, ev_l79, ev_l85, ev_l91, ev_l99, ev_l100, ev_l107, ev_l115, ev_l127, ev_l140, ev_l215, ev_l220, ev_l920, ev_l9999, ev_nT, ev_nF, ev_nlT, ev_nlF, wi_e, ek, hp_t n6 hp (by omega), ip_t m6 hp (by omega), ev, ew, show f_X6_in a4 (nI 0) (nI 12) = _ from in_f (n := 13) h (by omega) (by omega)]
            exact ⟨_, _, _, rfl, rfl, hR⟩
          · have eo : f_X6_in (nI o) (nI 0) (nI 12) = _ := in_t (n := 13) ho (by omega)
            by_cases full : S 0 = 6
            · simp (disch := first | omega | assumption) only [ev_add, ev_mul, ev_rem, ev_sub, ev_ltT, ev_ltF, ev_leT, ev_leF, ev_eqT, ev_eqF, ev_cl, ev_in, gd_t, bd_s, lt_e, ev_of, ↓reduceIte, decide_true, true_or, or_true, ev_l0, ev_l1, ev_l2, ev_l3, ev_l4, ev_l5, ev_l6, ev_l7, ev_l8, ev_l9, ev_l10, ev_l11, ev_l12, ev_l13, ev_l14, ev_l15, ev_l16, ev_l17, ev_l18, ev_l19, ev_l20, ev_l21, ev_l22, ev_l23, ev_l24, ev_l25, ev_l26, ev_l30, ev_l31, ev_l32, ev_l37, ev_l40, ev_l41, ev_l43, ev_l48, ev_l49, ev_l51, ev_l55, ev_l57, ev_l58, ev_l60, ev_l61, ev_l79, ev_l85, ev_l91, ev_l99, ev_l100, ev_l107, ev_l115, ev_l127, ev_l140, ev_l215, ev_l220, ev_l920, ev_l9999, ev_nT, ev_nF, ev_nlT, ev_nlF, wi_e, ek, hp_t n6 hp (by omega), ip_t m6 hp (by omega), ev, ew, eo, n0, m0, full]
              exact ⟨_, _, _, rfl, rfl, hR⟩
            · obtain ⟨σl1, c1, c2, c3⟩ := cl_fillr (t := t) (σ := σl) (a := 8 + S 0) (by omega) (ll8 (S 0) (by omega)) (by omega)
              have mm : (jx_mu (jx_mu (jx_mu (jx_mu (jx_mu σm 1 (31 + S 0) (nI k)) 1 (37 + S 0) (nI v)) 1 (43 + S 0) (nI p)) 1 (49 + S 0) (nI w)) 1 (55 + S 0) (nI o)) 1 0 = nI (S 0) := by
                simp (disch := omega) only [mu_n]; exact m0
              obtain ⟨σm2, d1, d2, d3, d4, d5⟩ := cm_vrow (show S 0 < 6 by omega) mm
              have q2 : σl1 0 2 = nI (S 0) := by rw [c2 0 (by omega)]; exact n0
              simp (disch := first | omega | assumption) only [ev_add, ev_mul, ev_rem, ev_sub, ev_ltT, ev_ltF, ev_leT, ev_leF, ev_eqT, ev_eqF, ev_cl, ev_in, gd_t, bd_s, lt_e, ev_of, ↓reduceIte, decide_true, true_or, or_true, ev_l0, ev_l1, ev_l2, ev_l3, ev_l4, ev_l5, ev_l6, ev_l7, ev_l8, ev_l9, ev_l10, ev_l11, ev_l12, ev_l13, ev_l14, ev_l15, ev_l16, ev_l17, ev_l18, ev_l19, ev_l20, ev_l21, ev_l22, ev_l23, ev_l24, ev_l25, ev_l26, ev_l30, ev_l31, ev_l32, ev_l37, ev_l40, ev_l41, ev_l43, ev_l48, ev_l49, ev_l51, ev_l55, ev_l57, ev_l58, ev_l60, ev_l61, ev_l79, ev_l85, ev_l91, ev_l99, ev_l100, ev_l107, ev_l115, ev_l127, ev_l140, ev_l215, ev_l220, ev_l920, ev_l9999, ev_nT, ev_nF, ev_nlT, ev_nlF, wi_e, ek, hp_t n6 hp (by omega), ip_t m6 hp (by omega), ev, ew, eo, n0, m0, ll8, c1, q2, d1, mu_a, mu_s]
              have hne : ∀ b, ¬ b = 8 + S 0 → ¬ b = 0 → (jx_mu (jx_mu (jx_mu (jx_mu (jx_mu (jx_mu σl1 (8 + S 0) 0 (nI k)) (8 + S 0) 1 (nI v)) (8 + S 0) 2 (nI p)) (8 + S 0) 3 (nI w)) (8 + S 0) 4 (nI o)) 0 2 (nI (S 0 + 1))) b = σl b := by
                intro b h1 h2
                simp (disch := omega) only [mu_a]; exact c2 b h1
              have hn0 : ∀ i, ¬ i = 2 → (jx_mu (jx_mu (jx_mu (jx_mu (jx_mu (jx_mu σl1 (8 + S 0) 0 (nI k)) (8 + S 0) 1 (nI v)) (8 + S 0) 2 (nI p)) (8 + S 0) 3 (nI w)) (8 + S 0) 4 (nI o)) 0 2 (nI (S 0 + 1))) 0 i = σl 0 i := by
                intro i h1
                simp (disch := omega) only [mu_a, mu_n]; rw [c2 0 (by omega)]
              have hm1 : ∀ i, ¬ i = 0 → ¬ i = 31 + S 0 → ¬ i = 37 + S 0 → ¬ i = 43 + S 0 → ¬ i = 49 + S 0 → ¬ i = 55 + S 0 → ¬ (61 + 3 * S 0 ≤ i ∧ i < 64 + 3 * S 0) → σm2 1 i = σm 1 i := by
                intro i h0 h1 h2 h3 h4 h5 h6
                rw [d3 i h0 h6]
                simp (disch := omega) only [mu_n]
              refine ⟨_, _, _, rfl, rfl, RR_new S (vs_ S (S 0) k v p w o) hi ht hst hw hb htc htm (vs_o (by omega) (by omega) (by omega) (by omega) (by omega) (by omega) (by omega)) (fun i h1 h2 => hm1 i (by omega) (by omega) (by omega) (by omega) (by omega) (by omega) (by omega)) ⟨fun j hj => hne j (by omega) (by omega), fun i hi => hn0 i (by omega)⟩ ⟨?_, ?_, ?_, ?_⟩ ?_ ?_ ?_⟩
              · rw [d2 2 (by omega)]; simp (disch := omega) only [mu_a]
              · rw [d2 9 (by omega)]; simp (disch := omega) only [mu_a]
              · rw [d2 0 (by omega)]; simp (disch := omega) only [mu_a]
              · rw [d2 0 (by omega)]; simp (disch := omega) only [mu_a]
              · refine ⟨⟨?_, ?_, ?_, ?_, ?_, ?_, ?_⟩, fun q hq => ?_, fun u hu => ?_, fun i hi => ?_, fun i hi => ?_, fun i hi => ?_⟩
                · rw [hn0 0 (by omega), vs_o (by omega) (by omega) (by omega) (by omega) (by omega) (by omega) (by omega)]; exact n6
                · rw [hn0 1 (by omega), vs_o (by omega) (by omega) (by omega) (by omega) (by omega) (by omega) (by omega)]; exact n7
                · rw [vs_0]; exact mu_s
                · rw [hn0 3 (by omega), vs_o (by omega) (by omega) (by omega) (by omega) (by omega) (by omega) (by omega)]; exact n4
                · rw [hn0 4 (by omega), vs_o (by omega) (by omega) (by omega) (by omega) (by omega) (by omega) (by omega)]; exact n1
                · rw [hn0 5 (by omega), vs_o (by omega) (by omega) (by omega) (by omega) (by omega) (by omega) (by omega)]; exact n2
                · rw [hn0 6 (by omega), vs_o (by omega) (by omega) (by omega) (by omega) (by omega) (by omega) (by omega)]; exact n3
                · rw [hne (1 + q) (by omega) (by omega)]
                  simp (disch := omega) only [vs_o]
                  exact hc.2.1 q hq
                · by_cases e : u = S 0
                  · subst e
                    rw [vs_1, vs_2 (by omega), vs_3 (by omega), vs_4 (by omega), vs_5 (by omega)]
                    refine ⟨⟨?_, ?_, ?_, ?_, ?_⟩, fun j hj => ?_⟩
                    · simp (disch := omega) only [mu_a, mu_n, mu_s]
                    · simp (disch := omega) only [mu_a, mu_n, mu_s]
                    · simp (disch := omega) only [mu_a, mu_n, mu_s]
                    · simp (disch := omega) only [mu_a, mu_n, mu_s]
                    · simp (disch := omega) only [mu_a, mu_n, mu_s]
                    · rw [vs_6 (by omega) hj]
                      simp (disch := omega) only [mu_a, mu_n]
                      exact c3 (5 + j) (by omega)
                  · rw [hne (8 + u) (by omega) (by omega)]
                    simp (disch := omega) only [vs_o]
                    exact ⟨(hc.2.2.1 u hu).1, fun j hj => by rw [vs_o (by omega) (by omega) (by omega) (by omega) (by omega) (by omega) (by omega)]; exact (hc.2.2.1 u hu).2 j hj⟩
                · rw [hne 14 (by omega) (by omega), vs_o (by omega) (by omega) (by omega) (by omega) (by omega) (by omega) (by omega)]; exact hc.2.2.2.1 i hi
                · rw [hne 15 (by omega) (by omega), hne 16 (by omega) (by omega)]
                  simp (disch := omega) only [vs_o]
                  exact hc.2.2.2.2.1 i hi
                · rw [hne 17 (by omega) (by omega), hne 18 (by omega) (by omega), hne 19 (by omega) (by omega)]
                  simp (disch := omega) only [vs_o]
                  exact hc.2.2.2.2.2 i hi
              · refine ⟨fun i hi h5 hs => ?_, ?_, fun q hq => ?_⟩
                · by_cases e0 : i = 0
                  · subst e0; rw [d4]; rfl
                  · by_cases e1 : i = 31 + S 0
                    · subst e1; rw [d3 _ (by omega) (by omega), vs_1]; simp (disch := omega) only [mu_n, mu_s]
                    · by_cases e2 : i = 37 + S 0
                      · subst e2; rw [d3 _ (by omega) (by omega), vs_2 (by omega)]; simp (disch := omega) only [mu_n, mu_s]
                      · by_cases e3 : i = 43 + S 0
                        · subst e3; rw [d3 _ (by omega) (by omega), vs_3 (by omega)]; simp (disch := omega) only [mu_n, mu_s]
                        · by_cases e4 : i = 49 + S 0
                          · subst e4; rw [d3 _ (by omega) (by omega), vs_4 (by omega)]; simp (disch := omega) only [mu_n, mu_s]
                          · by_cases e5 : i = 55 + S 0
                            · subst e5; rw [d3 _ (by omega) (by omega), vs_5 (by omega)]; simp (disch := omega) only [mu_n, mu_s]
                            · by_cases e6 : 61 + 3 * S 0 ≤ i ∧ i < 64 + 3 * S 0
                              · obtain ⟨j, rfl⟩ : ∃ j, i = 61 + 3 * S 0 + j := ⟨i - (61 + 3 * S 0), by omega⟩
                                rw [vs_6 (by omega) (by omega)]; exact d5 j (by omega)
                              · rw [hm1 i e0 e1 e2 e3 e4 e5 e6, vs_o e0 e1 e2 e3 e4 e5 e6]; exact hm.1 i hi h5 hs
                · rw [hm1 5 (by omega) (by omega) (by omega) (by omega) (by omega) (by omega) (by omega), vs_o (by omega) (by omega) (by omega) (by omega) (by omega) (by omega) (by omega)]; exact hm.2.1
                · rw [hm1 (17 + q) (by omega) (by omega) (by omega) (by omega) (by omega) (by omega) (by omega), vs_o (by omega) (by omega) (by omega) (by omega) (by omega) (by omega) (by omega)]; exact hm.2.2 q hq
              · refine ⟨fun i => ?_, ⟨?_, ?_, ?_, ?_, ?_, ?_, ?_, ?_⟩, fun q hq => ?_, fun u hu => ?_, fun i hi => ?_, fun i hi => ?_, fun i hi => ?_⟩
                · have z := hw.1 i
                  unfold vs_
                  repeat' split
                  all_goals omega
                · rw [vs_0]; omega
                · rw [vs_o (by omega) (by omega) (by omega) (by omega) (by omega) (by omega) (by omega)]; exact bw.2.1
                · rw [vs_o (by omega) (by omega) (by omega) (by omega) (by omega) (by omega) (by omega)]; exact bw.2.2.1
                · rw [vs_o (by omega) (by omega) (by omega) (by omega) (by omega) (by omega) (by omega)]; exact bw.2.2.2.1
                · rw [vs_o (by omega) (by omega) (by omega) (by omega) (by omega) (by omega) (by omega)]; exact bw.2.2.2.2.1
                · simp (disch := omega) only [vs_o]; exact bw.2.2.2.2.2.1
                · simp (disch := omega) only [vs_o]; exact bw.2.2.2.2.2.2.1
                · simp (disch := omega) only [vs_o]; exact bw.2.2.2.2.2.2.2
                · simp (disch := omega) only [vs_o]; exact hw.2.2.1 q hq
                · rw [vs_0] at hu
                  by_cases e : u = S 0
                  · subst e
                    rw [vs_1, vs_2 (by omega), vs_3 (by omega), vs_4 (by omega), vs_5 (by omega), vs_o (j := 6) (by omega) (by omega) (by omega) (by omega) (by omega) (by omega) (by omega)]
                    refine ⟨by omega, by omega, hp, by omega, by omega, fun j hj => ?_⟩
                    rw [vs_6 (by omega) hj]; omega
                  · simp (disch := omega) only [vs_o]
                    have z := hw.2.2.2.1 u (by omega)
                    refine ⟨z.1, z.2.1, z.2.2.1, z.2.2.2.1, z.2.2.2.2.1, fun j hj => ?_⟩
                    rw [vs_o (by omega) (by omega) (by omega) (by omega) (by omega) (by omega) (by omega)]; exact z.2.2.2.2.2 j hj
                · rw [vs_o (by omega) (by omega) (by omega) (by omega) (by omega) (by omega) (by omega)] at hi ⊢; exact hw.2.2.2.2.1 i hi
                · rw [vs_o (by omega) (by omega) (by omega) (by omega) (by omega) (by omega) (by omega)] at hi
                  have z := hw.2.2.2.2.2.1 i hi
                  simp (disch := omega) only [vs_o]; exact z
                · rw [vs_o (by omega) (by omega) (by omega) (by omega) (by omega) (by omega) (by omega)] at hi
                  have z := hw.2.2.2.2.2.2 i hi
                  rw [vs_0]
                  simp (disch := omega) only [vs_o]; omega
