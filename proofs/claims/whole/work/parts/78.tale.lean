/-! tale -/
def ts_ (S : Nat → Nat) (v n p j : Nat) : Nat := if j = 3 then S 3 + 1 else if j = 91 + S 3 then v else if j = 99 + S 3 then n else if j = 107 + S 3 then p else S j
theorem ts_1 {S : Nat → Nat} {v n p : Nat} : ts_ S v n p 3 = S 3 + 1 := rfl
theorem ts_2 {S : Nat → Nat} {v n p : Nat} : ts_ S v n p (91 + S 3) = v := by unfold ts_; rw [if_neg (by omega), if_pos rfl]
theorem ts_3 {S : Nat → Nat} {v n p : Nat} : ts_ S v n p (99 + S 3) = n := by unfold ts_; rw [if_neg (by omega), if_neg (by omega), if_pos rfl]
theorem ts_4 {S : Nat → Nat} {v n p : Nat} : ts_ S v n p (107 + S 3) = p := by unfold ts_; rw [if_neg (by omega), if_neg (by omega), if_neg (by omega), if_pos rfl]
theorem ts_o {S : Nat → Nat} {v n p j : Nat} (h1 : ¬ j = 3) (h2 : ¬ j = 91 + S 3) (h3 : ¬ j = 99 + S 3) (h4 : ¬ j = 107 + S 3) : ts_ S v n p j = S j := by
  unfold ts_
  rw [if_neg h1, if_neg h2, if_neg h3, if_neg h4]
theorem tale_c {σl : jx_M} {S : Nat → Nat} (hc : rn_c (σl 0) σl S) {v n p : Nat} (h8 : S 3 < 8) : rn_c ((jx_mu (jx_mu (jx_mu (jx_mu σl 17 (S 3) (nI v)) 18 (S 3) (nI n)) 19 (S 3) (nI p)) 0 6 (nI (S 3 + 1))) 0) (jx_mu (jx_mu (jx_mu (jx_mu σl 17 (S 3) (nI v)) 18 (S 3) (nI n)) 19 (S 3) (nI p)) 0 6 (nI (S 3 + 1))) (ts_ S v n p) := by
  refine ⟨⟨?_, ?_, ?_, ?_, ?_, ?_, ?_⟩, fun q hq => ?_, fun u hu => ?_, fun i hi => ?_, fun i hi => ?_, fun i hi => ?_⟩
  · simp (disch := omega) only [mu_n, mu_a, ts_o]; exact hc.1.1
  · simp (disch := omega) only [mu_n, mu_a, ts_o]; exact hc.1.2.1
  · simp (disch := omega) only [mu_n, mu_a, ts_o]; exact hc.1.2.2.1
  · simp (disch := omega) only [mu_n, mu_a, ts_o]; exact hc.1.2.2.2.1
  · simp (disch := omega) only [mu_n, mu_a, ts_o]; exact hc.1.2.2.2.2.1
  · simp (disch := omega) only [mu_n, mu_a, ts_o]; exact hc.1.2.2.2.2.2.1
  · rw [ts_1]; exact mu_s
  · simp (disch := omega) only [mu_a, ts_o]; exact hc.2.1 q hq
  · simp (disch := omega) only [mu_a, ts_o]
    exact ⟨(hc.2.2.1 u hu).1, fun j hj => by rw [ts_o (by omega) (by omega) (by omega) (by omega)]; exact (hc.2.2.1 u hu).2 j hj⟩
  · simp (disch := omega) only [mu_a, ts_o]; exact hc.2.2.2.1 i hi
  · simp (disch := omega) only [mu_a, ts_o]; exact hc.2.2.2.2.1 i hi
  · by_cases e : i = S 3
    · subst e
      rw [ts_2, ts_3, ts_4]
      simp (disch := omega) only [mu_a, mu_s, and_self]
    · have z := hc.2.2.2.2.2 i hi
      rw [ts_o (by omega) (by omega) (by omega) (by omega), ts_o (by omega) (by omega) (by omega) (by omega), ts_o (by omega) (by omega) (by omega) (by omega)]
      simp (disch := omega) only [mu_a, mu_n]
      exact z
theorem tale_m {σm : jx_M} {S : Nat → Nat} (hm : rn_m (σm 1) S) {v n p : Nat} (h8 : S 3 < 8) : rn_m ((jx_mu (jx_mu (jx_mu (jx_mu σm 1 (91 + S 3) (nI v)) 1 (99 + S 3) (nI n)) 1 (107 + S 3) (nI p)) 1 3 (nI (S 3 + 1))) 1) (ts_ S v n p) := by
  refine ⟨fun i hi h5 hs => ?_, ?_, fun q hq => ?_⟩
  · by_cases e1 : i = 3
    · subst e1; rw [ts_1]; exact mu_s
    · by_cases e2 : i = 91 + S 3
      · subst e2; rw [ts_2]; simp (disch := omega) only [mu_n, mu_s]
      · by_cases e3 : i = 99 + S 3
        · subst e3; rw [ts_3]; simp (disch := omega) only [mu_n, mu_s]
        · by_cases e4 : i = 107 + S 3
          · subst e4; rw [ts_4]; simp (disch := omega) only [mu_n, mu_s]
          · rw [ts_o e1 e2 e3 e4]; simp (disch := omega) only [mu_n]; exact hm.1 i hi h5 hs
  · rw [ts_o (by omega) (by omega) (by omega) (by omega)]; simp (disch := omega) only [mu_n]; exact hm.2.1
  · rw [ts_o (by omega) (by omega) (by omega) (by omega)]; simp (disch := omega) only [mu_n]; exact hm.2.2 q hq
theorem tale_w {S : Nat → Nat} (hw : rn_w S) {v n p : Nat} (h8 : S 3 < 8) (hv : v < S 0) (hn : n ≤ 12) (hp : p < S 6) : rn_w (ts_ S v n p) := by
  have bw := hw.2.1
  refine ⟨fun i => ?_, ⟨?_, ?_, ?_, ?_, ?_, ?_, ?_, ?_⟩, fun q hq => ?_, fun u hu => ?_, fun i hi => ?_, fun i hi => ?_, fun i hi => ?_⟩
  · have z := hw.1 i
    unfold ts_
    repeat' split
    all_goals omega
  · rw [ts_o (by omega) (by omega) (by omega) (by omega)]; exact bw.1
  · rw [ts_o (by omega) (by omega) (by omega) (by omega)]; exact bw.2.1
  · rw [ts_o (by omega) (by omega) (by omega) (by omega)]; exact bw.2.2.1
  · rw [ts_1]; omega
  · rw [ts_o (by omega) (by omega) (by omega) (by omega)]; exact bw.2.2.2.2.1
  · rw [ts_o (by omega) (by omega) (by omega) (by omega), ts_o (by omega) (by omega) (by omega) (by omega)]; exact bw.2.2.2.2.2.1
  · rw [ts_o (by omega) (by omega) (by omega) (by omega)]; exact bw.2.2.2.2.2.2.1
  · rw [ts_o (by omega) (by omega) (by omega) (by omega)]; exact bw.2.2.2.2.2.2.2
  · simp (disch := omega) only [ts_o]; exact hw.2.2.1 q hq
  · rw [ts_o (by omega) (by omega) (by omega) (by omega)] at hu
    have z := hw.2.2.2.1 u hu
    simp (disch := omega) only [ts_o]
    exact ⟨z.1, z.2.1, z.2.2.1, z.2.2.2.1, z.2.2.2.2.1, fun j hj => by rw [ts_o (by omega) (by omega) (by omega) (by omega)]; exact z.2.2.2.2.2 j hj⟩
  · rw [ts_o (by omega) (by omega) (by omega) (by omega)] at hi ⊢; exact hw.2.2.2.2.1 i hi
  · rw [ts_o (by omega) (by omega) (by omega) (by omega)] at hi
    simp (disch := omega) only [ts_o]; exact hw.2.2.2.2.2.1 i hi
  · rw [ts_1] at hi
    rw [ts_o (j := 0) (by omega) (by omega) (by omega) (by omega)]
    by_cases e : i = S 3
    · subst e
      rw [ts_2, ts_3, ts_4]; omega
    · have z := hw.2.2.2.2.2.2 i (by omega)
      rw [ts_o (by omega) (by omega) (by omega) (by omega), ts_o (by omega) (by omega) (by omega) (by omega), ts_o (by omega) (by omega) (by omega) (by omega)]; exact z
theorem op_tale : lw_op_tale RR := by
  intro t σl σm a0 a1 a2 hR
  obtain ⟨⟨S, F, hc, hm, hw, hb, htc, htm⟩, hi, ht, hst⟩ := id hR
  have n6 : σl 0 0 = nI (S 6) := hc.1.1
  have n7 : σl 0 1 = nI (S 7) := hc.1.2.1
  have n0 : σl 0 2 = nI (S 0) := hc.1.2.2.1
  have n4 : σl 0 3 = nI (S 4) := hc.1.2.2.2.1
  have n1 : σl 0 4 = nI (S 1) := hc.1.2.2.2.2.1
  have n2 : σl 0 5 = nI (S 2) := hc.1.2.2.2.2.2.1
  have n3 : σl 0 6 = nI (S 3) := hc.1.2.2.2.2.2.2
  have m0 : σm 1 0 = nI (S 0) := hm.1 0 (by omega) (by omega) (by omega)
  have m1 : σm 1 1 = nI (S 1) := hm.1 1 (by omega) (by omega) (by omega)
  have m2 : σm 1 2 = nI (S 2) := hm.1 2 (by omega) (by omega) (by omega)
  have m3 : σm 1 3 = nI (S 3) := hm.1 3 (by omega) (by omega) (by omega)
  have m4 : σm 1 4 = nI (S 4) := hm.1 4 (by omega) (by omega) (by omega)
  have m6 : σm 1 6 = nI (S 6) := hm.1 6 (by omega) (by omega) (by omega)
  have m7 : σm 1 7 = nI (S 7) := hm.1 7 (by omega) (by omega) (by omega)
  have bw := hw.2.1
  have b7 := hw.1 7
  unfold f_X5_tale f_X6_tale
  by_cases hz : a0 = -1
  · subst hz
    simp (disch := first | omega | assumption) only [ev_add, ev_mul, ev_rem, ev_sub, ev_ltT, ev_ltF, ev_leT, ev_leF, ev_eqT, ev_eqF, ev_cl, ev_in, gd_t, bd_s, lt_e, ev_of, ↓reduceIte, decide_true, true_or, or_true, ev_l0, ev_l1, ev_l2, ev_l3, ev_l4, ev_l5, ev_l6, ev_l7, ev_l8, ev_l9, ev_l10, ev_l11, ev_l12, ev_l13, ev_l14, ev_l15, ev_l16, ev_l17, ev_l18, ev_l19, ev_l20, ev_l21, ev_l22, ev_l23, ev_l24, ev_l25, ev_l26, ev_l30, ev_l31, ev_l32, ev_l37, ev_l40, ev_l41, ev_l43, ev_l48, ev_l49, ev_l51, ev_l55, ev_l57, ev_l58, ev_l60, ev_l61, ev_l79, ev_l85, ev_l91, ev_l99, ev_l100, ev_l107, ev_l115, ev_l127, ev_l140, ev_l215, ev_l220, ev_l920, ev_l9999, ev_nT, ev_nF, ev_nlT, ev_nlF]
    refine ⟨_, _, _, rfl, rfl, RR_new S (upN S 3 0) hi ht hst hw hb htc htm ?_ ?_ ?_ ⟨?_, ?_, ?_, ?_⟩ ?_ ?_ ?_⟩
    · simp (disch := omega) only [upN_n]
    · intro k h1 h2
      simp (disch := omega) only [mu_n]
    · refine ⟨fun j hj => ?_, fun i hi => ?_⟩
      all_goals (simp (disch := omega) only [mu_a, mu_n])
    · rfl
    · rfl
    · rfl
    · rfl
    · refine ⟨⟨?_, ?_, ?_, ?_, ?_, ?_, ?_⟩, fun p hp => ⟨?_, ?_, ?_⟩, fun v hv => ⟨⟨?_, ?_, ?_, ?_, ?_⟩, fun j hj => ?_⟩, fun i hi => ?_, fun i hi => ⟨?_, ?_⟩, fun i hi => ⟨?_, ?_, ?_⟩⟩
      all_goals (try simp only [mu_v, upN, and_self, true_and, and_true, false_and, and_false, ↓reduceIte, eq_self, Nat.reduceEqDiff, Nat.add_left_cancel_iff])
      all_goals (repeat' split)
      all_goals first | rfl | omega | exact hc.1.1 | exact hc.1.2.1 | exact hc.1.2.2.1 | exact hc.1.2.2.2.1 | exact hc.1.2.2.2.2.1 | exact hc.1.2.2.2.2.2.1 | exact hc.1.2.2.2.2.2.2 | exact (hc.2.1 p hp).1 | exact (hc.2.1 p hp).2.1 | exact (hc.2.1 p hp).2.2 | exact (hc.2.2.1 v hv).1.1 | exact (hc.2.2.1 v hv).1.2.1 | exact (hc.2.2.1 v hv).1.2.2.1 | exact (hc.2.2.1 v hv).1.2.2.2.1 | exact (hc.2.2.1 v hv).1.2.2.2.2 | exact (hc.2.2.1 v hv).2 j hj | exact hc.2.2.2.1 i hi | exact (hc.2.2.2.2.1 i hi).1 | exact (hc.2.2.2.2.1 i hi).2 | exact (hc.2.2.2.2.2 i hi).1 | exact (hc.2.2.2.2.2 i hi).2.1 | exact (hc.2.2.2.2.2 i hi).2.2
    · refine ⟨fun k hk h5 hs => ?_, ?_, fun p hp => ?_⟩
      all_goals (try simp only [mu_v, upN, and_self, true_and, and_true, false_and, and_false, ↓reduceIte, eq_self, Nat.reduceEqDiff, Nat.add_left_cancel_iff])
      all_goals (repeat' split)
      all_goals first | rfl | omega | exact hm.1 k hk h5 hs | exact hm.2.1 | exact hm.2.2 p hp
    · refine ⟨fun k => ?_, ⟨?_, ?_, ?_, ?_, ?_, ?_, ?_, ?_⟩, fun p hp => ⟨?_, fun hq => ?_, fun hq => ?_, ?_⟩, fun v hv => ⟨?_, ?_, ?_, ?_, ?_, fun j hj => ?_⟩, fun i hi => ?_, fun i hi => ⟨?_, ?_⟩, fun i hi => ⟨?_, ?_, ?_⟩⟩
      all_goals (try simp (disch := omega) only [upN_s, upN_n] at *)
      all_goals (try simp only [upN, and_self, true_and, and_true, false_and, and_false, ↓reduceIte, eq_self])
      all_goals (repeat' split)
      all_goals first | omega | exact hw.1 _ | (have z := hw.2.1; omega) | (have z := hw.2.2.1 p hp; have z2 := hw.2.1; omega) | (have z := hw.2.2.2.1 v (by omega); have z2 := hw.2.1; first | omega | (have z3 := z.2.2.2.2.2 j hj; omega)) | (have z := hw.2.2.2.2.1 i (by omega); omega) | (have z := hw.2.2.2.2.2.1 i (by omega); omega) | (have z := hw.2.2.2.2.2.2 i (by omega); omega)
  · rw [if_neg hz, if_neg hz]
    rcases ix_p a0 (S 0) (by omega) with h | ⟨v, hv, rfl⟩
    · simp (disch := first | omega | assumption) only [ev_add, ev_mul, ev_rem, ev_sub, ev_ltT, ev_ltF, ev_leT, ev_leF, ev_eqT, ev_eqF, ev_cl, ev_in, gd_t, bd_s, lt_e, ev_of, ↓reduceIte, decide_true, true_or, or_true, ev_l0, ev_l1, ev_l2, ev_l3, ev_l4, ev_l5, ev_l6, ev_l7, ev_l8, ev_l9, ev_l10, ev_l11, ev_l12, ev_l13, ev_l14, ev_l15, ev_l16, ev_l17, ev_l18, ev_l19, ev_l20, ev_l21, ev_l22, ev_l23, ev_l24, ev_l25, ev_l26, ev_l30, ev_l31, ev_l32, ev_l37, ev_l40, ev_l41, ev_l43, ev_l48, ev_l49, ev_l51, ev_l55, ev_l57, ev_l58, ev_l60, ev_l61, ev_l79, ev_l85, ev_l91, ev_l99, ev_l100, ev_l107, ev_l115, ev_l127, ev_l140, ev_l215, ev_l220, ev_l920, ev_l9999, ev_nT, ev_nF, ev_nlT, ev_nlF, hv_f n0 h, iv_f m0 (by omega) h]
      exact ⟨_, _, _, rfl, rfl, hR⟩
    · rcases ix_p a2 (S 6) (by omega) with h | ⟨p, hp, rfl⟩
      · simp (disch := first | omega | assumption) only [ev_add, ev_mul, ev_rem, ev_sub, ev_ltT, ev_ltF, ev_leT, ev_leF, ev_eqT, ev_eqF, ev_cl, ev_in, gd_t, bd_s, lt_e, ev_of, ↓reduceIte, decide_true, true_or, or_true, ev_l0, ev_l1, ev_l2, ev_l3, ev_l4, ev_l5, ev_l6, ev_l7, ev_l8, ev_l9, ev_l10, ev_l11, ev_l12, ev_l13, ev_l14, ev_l15, ev_l16, ev_l17, ev_l18, ev_l19, ev_l20, ev_l21, ev_l22, ev_l23, ev_l24, ev_l25, ev_l26, ev_l30, ev_l31, ev_l32, ev_l37, ev_l40, ev_l41, ev_l43, ev_l48, ev_l49, ev_l51, ev_l55, ev_l57, ev_l58, ev_l60, ev_l61, ev_l79, ev_l85, ev_l91, ev_l99, ev_l100, ev_l107, ev_l115, ev_l127, ev_l140, ev_l215, ev_l220, ev_l920, ev_l9999, ev_nT, ev_nF, ev_nlT, ev_nlF, hv_t n0 hv (by omega), iv_t m0 hv (by omega), hp_f n6 h, ip_f m6 (by omega) h]
        exact ⟨_, _, _, rfl, rfl, hR⟩
      · rcases ix_p a1 13 (by omega) with h | ⟨n, hn, rfl⟩
        · simp (disch := first | omega | assumption) only [ev_add, ev_mul, ev_rem, ev_sub, ev_ltT, ev_ltF, ev_leT, ev_leF, ev_eqT, ev_eqF, ev_cl, ev_in, gd_t, bd_s, lt_e, ev_of, ↓reduceIte, decide_true, true_or, or_true, ev_l0, ev_l1, ev_l2, ev_l3, ev_l4, ev_l5, ev_l6, ev_l7, ev_l8, ev_l9, ev_l10, ev_l11, ev_l12, ev_l13, ev_l14, ev_l15, ev_l16, ev_l17, ev_l18, ev_l19, ev_l20, ev_l21, ev_l22, ev_l23, ev_l24, ev_l25, ev_l26, ev_l30, ev_l31, ev_l32, ev_l37, ev_l40, ev_l41, ev_l43, ev_l48, ev_l49, ev_l51, ev_l55, ev_l57, ev_l58, ev_l60, ev_l61, ev_l79, ev_l85, ev_l91, ev_l99, ev_l100, ev_l107, ev_l115, ev_l127, ev_l140, ev_l215, ev_l220, ev_l920, ev_l9999, ev_nT, ev_nF, ev_nlT, ev_nlF, wi_e, hv_t n0 hv (by omega), iv_t m0 hv (by omega), hp_t n6 hp (by omega), ip_t m6 hp (by omega), show f_X6_in a1 (nI 0) (nI 12) = _ from in_f (n := 13) h (by omega) (by omega)]
          exact ⟨_, _, _, rfl, rfl, hR⟩
        · have e12 : f_X6_in (nI n) (nI 0) (nI 12) = _ := in_t (n := 13) hn (by omega)
          by_cases h6 : S 3 = 8
          · simp (disch := first | omega | assumption) only [ev_add, ev_mul, ev_rem, ev_sub, ev_ltT, ev_ltF, ev_leT, ev_leF, ev_eqT, ev_eqF, ev_cl, ev_in, gd_t, bd_s, lt_e, ev_of, ↓reduceIte, decide_true, true_or, or_true, ev_l0, ev_l1, ev_l2, ev_l3, ev_l4, ev_l5, ev_l6, ev_l7, ev_l8, ev_l9, ev_l10, ev_l11, ev_l12, ev_l13, ev_l14, ev_l15, ev_l16, ev_l17, ev_l18, ev_l19, ev_l20, ev_l21, ev_l22, ev_l23, ev_l24, ev_l25, ev_l26, ev_l30, ev_l31, ev_l32, ev_l37, ev_l40, ev_l41, ev_l43, ev_l48, ev_l49, ev_l51, ev_l55, ev_l57, ev_l58, ev_l60, ev_l61, ev_l79, ev_l85, ev_l91, ev_l99, ev_l100, ev_l107, ev_l115, ev_l127, ev_l140, ev_l215, ev_l220, ev_l920, ev_l9999, ev_nT, ev_nF, ev_nlT, ev_nlF, wi_e, hv_t n0 hv (by omega), iv_t m0 hv (by omega), hp_t n6 hp (by omega), ip_t m6 hp (by omega), e12, n3, m3, h6]
            exact ⟨_, _, _, rfl, rfl, hR⟩
          · simp (disch := first | omega | assumption) only [ev_add, ev_mul, ev_rem, ev_sub, ev_ltT, ev_ltF, ev_leT, ev_leF, ev_eqT, ev_eqF, ev_cl, ev_in, gd_t, bd_s, lt_e, ev_of, ↓reduceIte, decide_true, true_or, or_true, ev_l0, ev_l1, ev_l2, ev_l3, ev_l4, ev_l5, ev_l6, ev_l7, ev_l8, ev_l9, ev_l10, ev_l11, ev_l12, ev_l13, ev_l14, ev_l15, ev_l16, ev_l17, ev_l18, ev_l19, ev_l20, ev_l21, ev_l22, ev_l23, ev_l24, ev_l25, ev_l26, ev_l30, ev_l31, ev_l32, ev_l37, ev_l40, ev_l41, ev_l43, ev_l48, ev_l49, ev_l51, ev_l55, ev_l57, ev_l58, ev_l60, ev_l61, ev_l79, ev_l85, ev_l91, ev_l99, ev_l100, ev_l107, ev_l115, ev_l127, ev_l140, ev_l215, ev_l220, ev_l920, ev_l9999, ev_nT, ev_nF, ev_nlT, ev_nlF, wi_e, hv_t n0 hv (by omega), iv_t m0 hv (by omega), hp_t n6 hp (by omega), ip_t m6 hp (by omega), e12, n3, m3, mu_s, mu_a, mu_n]
            refine ⟨_, _, _, rfl, rfl, RR_new S (ts_ S v n p) hi ht hst hw hb htc htm (ts_o (by omega) (by omega) (by omega) (by omega)) (fun k h1 h2 => ?_) ⟨fun j hj => ?_, fun i hi => ?_⟩ ⟨?_, ?_, ?_, ?_⟩ (tale_c hc (by omega)) (tale_m hm (by omega)) (tale_w hw (by omega) hv (by omega) hp)⟩
            · simp (disch := omega) only [mu_n]
            · simp (disch := omega) only [mu_a]
            · simp (disch := omega) only [mu_n, mu_a]
            · simp (disch := omega) only [mu_a]
            · simp (disch := omega) only [mu_a]
            · simp (disch := omega) only [mu_a]
            · simp (disch := omega) only [mu_a]
