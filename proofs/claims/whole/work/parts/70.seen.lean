/-! ward, looked, fits, fair -/
def sp_ww (S : Nat → Nat) (F : rt_F) (L C : Nat → Nat) (d v : Nat) : Nat := if S (24 + L v) = d then sp_W S F L C v else 0
theorem cl_ward {t : jx_T} {S : Nat → Nat} {F : rt_F} {k : Nat} {L C : Nat → Nat} {σ : jx_M} (h : NL t S F k L C σ) (hw : cs_w S F) (hb : ns_b S L C) {d : Nat} (hd : d < 3) : f_X2_winner t σ (nI d) = some (sp_my (sp_q (sp_ww S F L C d) (fun v => S (49 + v)) 0 (S 0)) (sp_q (sp_ww S F L C d) (fun v => S (49 + v)) 1 (S 0))) := by
  have b6 := hw.1.2.1
  have n0 : σ 0 2 = nI (S 0) := h.1.1.1.2.2.1
  have wl : ∀ v, v < S 0 → sp_ww S F L C d v ≤ 991 := fun v hv => by
    have := sp_W_le hw hb hv
    unfold sp_ww
    split <;> omega
  have q0 := sp_q_le (fun v => S (49 + v)) 0 (S 0) wl
  have q1 := sp_q_le (fun v => S (49 + v)) 1 (S 0) wl
  unfold f_X2_winner
  have key := lq_ (X := Unit) (fun n i _ => b_X2_winner_4 t n σ (nI d) (nI (sp_q (sp_ww S F L C d) (fun v => S (49 + v)) 1 i) - nI (sp_q (sp_ww S F L C d) (fun v => S (49 + v)) 0 i)) (nI i) = some (sp_my (sp_q (sp_ww S F L C d) (fun v => S (49 + v)) 0 (S 0)) (sp_q (sp_ww S F L C d) (fun v => S (49 + v)) 1 (S 0)))) (fun _ _ => True) (S 0) ?_ ?_ 0 () (by omega) (by omega) trivial
  · have key' : b_X2_winner_4 t jx_fuel σ (nI d) (nI 0 - nI 0) (nI 0) = _ := key
    rw [show (nI 0 - nI 0 : Int32) = 0 by decide] at key'
    exact key'
  · intro n _ _
    simp only [b_X2_winner_4, g_X2_winner_4]
    rw [n0, if_pos (Int32.le_refl _), cl_winner (by omega) (by omega)]
    rfl
  · intro n i _ hi _ ih
    have w9 : σ 59 i = nI (sp_W S F L C i) := (h.2.2.2 i hi).2
    have w8 : σ 58 i = nI (L i) := (h.2.2.2 i hi).1
    have bL := (hb i hi).1
    have k2 := (h.1.1.2.1 (L i) (by omega)).2.2
    have k3 := (h.1.1.2.2.1 i (by omega)).1.2.2.2.1
    have bw := hw.1.2.2.2.1 i hi
    have bd := hw.1.2.2.1 (L i) (by omega)
    have ih' := ih () trivial
    simp only [b_X2_winner_4, g_X2_winner_4, b_X2_winner_67, b_X2_winner_69]
    rw [show ∀ y, sp_q (sp_ww S F L C d) (fun v => S (49 + v)) y (i + 1) = sp_q (sp_ww S F L C d) (fun v => S (49 + v)) y i + (if S (49 + i) = y then (if S (24 + L i) = d then sp_W S F L C i else 0) else 0) from fun _ => rfl, show ∀ y, sp_q (sp_ww S F L C d) (fun v => S (49 + v)) y (i + 1) = sp_q (sp_ww S F L C d) (fun v => S (49 + v)) y i + (if S (49 + i) = y then (if S (24 + L i) = d then sp_W S F L C i else 0) else 0) from fun _ => rfl] at ih'
    by_cases g : S (24 + L i) = d
    · rw [if_pos g] at ih'
      by_cases f : S (49 + i) = 1
      · rw [if_pos f, if_neg (show ¬ S (49 + i) = 0 by omega), Nat.add_zero] at ih'
        simp (disch := first | omega | assumption) only [ev_add, ev_mul, ev_rem, ev_sub, ev_ltT, ev_ltF, ev_leT, ev_leF, ev_eqT, ev_eqF, ev_cl, ev_in, gd_t, bd_s, lt_e, ev_of, ↓reduceIte, decide_true, true_or, or_true, ev_l0, ev_l1, ev_l2, ev_l3, ev_l4, ev_l5, ev_l6, ev_l7, ev_l8, ev_l9, ev_l10, ev_l11, ev_l12, ev_l13, ev_l14, ev_l15, ev_l16, ev_l17, ev_l18, ev_l19, ev_l20, ev_l21, ev_l22, ev_l23, ev_l24, ev_l25, ev_l26, ev_l30, ev_l31, ev_l32, ev_l37, ev_l40, ev_l41, ev_l43, ev_l48, ev_l49, ev_l51, ev_l55, ev_l57, ev_l58, ev_l60, ev_l61, ev_l79, ev_l85, ev_l91, ev_l99, ev_l100, ev_l107, ev_l115, ev_l127, ev_l140, ev_l215, ev_l220, ev_l920, ev_l9999, ev_nT, ev_nF, ev_nlT, ev_nlF, n0, w8, ll1, ll8, k2, g, k3, f, w9, i3_a]
        exact ih'
      · have f0 : S (49 + i) = 0 := by omega
        rw [if_neg f, if_pos f0, Nat.add_zero] at ih'
        simp (disch := first | omega | assumption) only [ev_add, ev_mul, ev_rem, ev_sub, ev_ltT, ev_ltF, ev_leT, ev_leF, ev_eqT, ev_eqF, ev_cl, ev_in, gd_t, bd_s, lt_e, ev_of, ↓reduceIte, decide_true, true_or, or_true, ev_l0, ev_l1, ev_l2, ev_l3, ev_l4, ev_l5, ev_l6, ev_l7, ev_l8, ev_l9, ev_l10, ev_l11, ev_l12, ev_l13, ev_l14, ev_l15, ev_l16, ev_l17, ev_l18, ev_l19, ev_l20, ev_l21, ev_l22, ev_l23, ev_l24, ev_l25, ev_l26, ev_l30, ev_l31, ev_l32, ev_l37, ev_l40, ev_l41, ev_l43, ev_l48, ev_l49, ev_l51, ev_l55, ev_l57, ev_l58, ev_l60, ev_l61, ev_l79, ev_l85, ev_l91, ev_l99, ev_l100, ev_l107, ev_l115, ev_l127, ev_l140, ev_l215, ev_l220, ev_l920, ev_l9999, ev_nT, ev_nF, ev_nlT, ev_nlF, n0, w8, ll1, ll8, k2, g, k3, f0, w9, i3_s]
        exact ih'
    · rw [if_neg g, ite_self, ite_self, Nat.add_zero, Nat.add_zero] at ih'
      simp (disch := first | omega | assumption) only [ev_add, ev_mul, ev_rem, ev_sub, ev_ltT, ev_ltF, ev_leT, ev_leF, ev_eqT, ev_eqF, ev_cl, ev_in, gd_t, bd_s, lt_e, ev_of, ↓reduceIte, decide_true, true_or, or_true, ev_l0, ev_l1, ev_l2, ev_l3, ev_l4, ev_l5, ev_l6, ev_l7, ev_l8, ev_l9, ev_l10, ev_l11, ev_l12, ev_l13, ev_l14, ev_l15, ev_l16, ev_l17, ev_l18, ev_l19, ev_l20, ev_l21, ev_l22, ev_l23, ev_l24, ev_l25, ev_l26, ev_l30, ev_l31, ev_l32, ev_l37, ev_l40, ev_l41, ev_l43, ev_l48, ev_l49, ev_l51, ev_l55, ev_l57, ev_l58, ev_l60, ev_l61, ev_l79, ev_l85, ev_l91, ev_l99, ev_l100, ev_l107, ev_l115, ev_l127, ev_l140, ev_l215, ev_l220, ev_l920, ev_l9999, ev_nT, ev_nF, ev_nlT, ev_nlF, n0, w8, ll1, ll8, k2]
      exact ih'
theorem cm_ward {S : Nat → Nat} {F : rt_F} {k : Nat} {L C : Nat → Nat} {σ : jx_M} (h : NM S F k L C σ) (hw : cs_w S F) (hb : ns_b S L C) {d : Nat} (hd : d < 3) : b_X6_ward_26 jx_fuel σ (nI d) (nI 0) (nI 0) (nI 0) = some (sp_my (sp_q (sp_ww S F L C d) (fun v => S (49 + v)) 0 (S 0)) (sp_q (sp_ww S F L C d) (fun v => S (49 + v)) 1 (S 0)), σ) := by
  have b6 := hw.1.2.1
  have m0 : σ 1 0 = nI (S 0) := h.1.1.1 0 (by omega) (by omega) (by omega)
  have wl : ∀ v, v < S 0 → sp_ww S F L C d v ≤ 991 := fun v hv => by
    have := sp_W_le hw hb hv
    unfold sp_ww
    split <;> omega
  have q0 := sp_q_le (fun v => S (49 + v)) 0 (S 0) wl
  have q1 := sp_q_le (fun v => S (49 + v)) 1 (S 0) wl
  refine lq_ (X := Unit) (fun n i _ => b_X6_ward_26 n σ (nI d) (nI (sp_q (sp_ww S F L C d) (fun v => S (49 + v)) 0 i)) (nI (sp_q (sp_ww S F L C d) (fun v => S (49 + v)) 1 i)) (nI i) = some (sp_my (sp_q (sp_ww S F L C d) (fun v => S (49 + v)) 0 (S 0)) (sp_q (sp_ww S F L C d) (fun v => S (49 + v)) 1 (S 0)), σ)) (fun _ _ => True) (S 0) ?_ ?_ 0 () (by omega) (by omega) trivial
  · intro n _ _
    simp only [b_X6_ward_26, g_X6_ward_26]
    rw [m0, if_pos (Int32.le_refl _), cm_greater (by omega) (by omega)]
    rfl
  · intro n i _ hi _ ih
    obtain ⟨k3, k4⟩ := NM_w h hw i hi
    obtain ⟨l7, l8⟩ := h.2.2 i hi
    obtain ⟨bL, bC⟩ := hb i hi
    have w6 : σ 6 (L i) = nI (sp_w S F (L i)) := h.2.1.2 (L i) bL
    have k2 := h.1.1.1 (24 + L i) (by omega) (by omega) (by omega)
    have bd := hw.1.2.2.1 (L i) (by omega)
    have ih' := ih () trivial
    simp only [b_X6_ward_26, g_X6_ward_26, b_X6_ward_81, b_X6_ward_82, b_X6_ward_104, b_X6_ward_127]
    rw [show ∀ y, sp_q (sp_ww S F L C d) (fun v => S (49 + v)) y (i + 1) = sp_q (sp_ww S F L C d) (fun v => S (49 + v)) y i + (if S (49 + i) = y then (if S (24 + L i) = d then C i * sp_w S F (L i) else 0) else 0) from fun _ => rfl, show ∀ y, sp_q (sp_ww S F L C d) (fun v => S (49 + v)) y (i + 1) = sp_q (sp_ww S F L C d) (fun v => S (49 + v)) y i + (if S (49 + i) = y then (if S (24 + L i) = d then C i * sp_w S F (L i) else 0) else 0) from fun _ => rfl] at ih'
    by_cases c : C i = 0
    · rw [c, Nat.zero_mul, ite_self, ite_self, ite_self, Nat.add_zero, Nat.add_zero] at ih'
      by_cases f : S (49 + i) = 1
      · simp (disch := first | omega | assumption) only [ev_add, ev_mul, ev_rem, ev_sub, ev_ltT, ev_ltF, ev_leT, ev_leF, ev_eqT, ev_eqF, ev_cl, ev_in, gd_t, bd_s, lt_e, ev_of, ↓reduceIte, decide_true, true_or, or_true, ev_l0, ev_l1, ev_l2, ev_l3, ev_l4, ev_l5, ev_l6, ev_l7, ev_l8, ev_l9, ev_l10, ev_l11, ev_l12, ev_l13, ev_l14, ev_l15, ev_l16, ev_l17, ev_l18, ev_l19, ev_l20, ev_l21, ev_l22, ev_l23, ev_l24, ev_l25, ev_l26, ev_l30, ev_l31, ev_l32, ev_l37, ev_l40, ev_l41, ev_l43, ev_l48, ev_l49, ev_l51, ev_l55, ev_l57, ev_l58, ev_l60, ev_l61, ev_l79, ev_l85, ev_l91, ev_l99, ev_l100, ev_l107, ev_l115, ev_l127, ev_l140, ev_l215, ev_l220, ev_l920, ev_l9999, ev_nT, ev_nF, ev_nlT, ev_nlF, m0, l8, c, k3, f, Nat.add_zero]
        exact ih'
      · have f0 : S (49 + i) = 0 := by omega
        simp (disch := first | omega | assumption) only [ev_add, ev_mul, ev_rem, ev_sub, ev_ltT, ev_ltF, ev_leT, ev_leF, ev_eqT, ev_eqF, ev_cl, ev_in, gd_t, bd_s, lt_e, ev_of, ↓reduceIte, decide_true, true_or, or_true, ev_l0, ev_l1, ev_l2, ev_l3, ev_l4, ev_l5, ev_l6, ev_l7, ev_l8, ev_l9, ev_l10, ev_l11, ev_l12, ev_l13, ev_l14, ev_l15, ev_l16, ev_l17, ev_l18, ev_l19, ev_l20, ev_l21, ev_l22, ev_l23, ev_l24, ev_l25, ev_l26, ev_l30, ev_l31, ev_l32, ev_l37, ev_l40, ev_l41, ev_l43, ev_l48, ev_l49, ev_l51, ev_l55, ev_l57, ev_l58, ev_l60, ev_l61, ev_l79, ev_l85, ev_l91, ev_l99, ev_l100, ev_l107, ev_l115, ev_l127, ev_l140, ev_l215, ev_l220, ev_l920, ev_l9999, ev_nT, ev_nF, ev_nlT, ev_nlF, m0, l8, c, k3, f0, Nat.add_zero]
        exact ih'
    · have c1 : C i = 1 := by omega
      rw [c1, Nat.one_mul] at ih'
      by_cases g : S (24 + L i) = d
      · rw [if_pos g] at ih'
        by_cases f : S (49 + i) = 1
        · rw [if_pos f, if_neg (show ¬ S (49 + i) = 0 by omega), Nat.add_zero] at ih'
          simp (disch := first | omega | assumption) only [ev_add, ev_mul, ev_rem, ev_sub, ev_ltT, ev_ltF, ev_leT, ev_leF, ev_eqT, ev_eqF, ev_cl, ev_in, gd_t, bd_s, lt_e, ev_of, ↓reduceIte, decide_true, true_or, or_true, ev_l0, ev_l1, ev_l2, ev_l3, ev_l4, ev_l5, ev_l6, ev_l7, ev_l8, ev_l9, ev_l10, ev_l11, ev_l12, ev_l13, ev_l14, ev_l15, ev_l16, ev_l17, ev_l18, ev_l19, ev_l20, ev_l21, ev_l22, ev_l23, ev_l24, ev_l25, ev_l26, ev_l30, ev_l31, ev_l32, ev_l37, ev_l40, ev_l41, ev_l43, ev_l48, ev_l49, ev_l51, ev_l55, ev_l57, ev_l58, ev_l60, ev_l61, ev_l79, ev_l85, ev_l91, ev_l99, ev_l100, ev_l107, ev_l115, ev_l127, ev_l140, ev_l215, ev_l220, ev_l920, ev_l9999, ev_nT, ev_nF, ev_nlT, ev_nlF, m0, l8, c1, l7, k2, g, k3, f, w6, Nat.add_zero]
          exact ih'
        · have f0 : S (49 + i) = 0 := by omega
          rw [if_neg f, if_pos f0, Nat.add_zero] at ih'
          simp (disch := first | omega | assumption) only [ev_add, ev_mul, ev_rem, ev_sub, ev_ltT, ev_ltF, ev_leT, ev_leF, ev_eqT, ev_eqF, ev_cl, ev_in, gd_t, bd_s, lt_e, ev_of, ↓reduceIte, decide_true, true_or, or_true, ev_l0, ev_l1, ev_l2, ev_l3, ev_l4, ev_l5, ev_l6, ev_l7, ev_l8, ev_l9, ev_l10, ev_l11, ev_l12, ev_l13, ev_l14, ev_l15, ev_l16, ev_l17, ev_l18, ev_l19, ev_l20, ev_l21, ev_l22, ev_l23, ev_l24, ev_l25, ev_l26, ev_l30, ev_l31, ev_l32, ev_l37, ev_l40, ev_l41, ev_l43, ev_l48, ev_l49, ev_l51, ev_l55, ev_l57, ev_l58, ev_l60, ev_l61, ev_l79, ev_l85, ev_l91, ev_l99, ev_l100, ev_l107, ev_l115, ev_l127, ev_l140, ev_l215, ev_l220, ev_l920, ev_l9999, ev_nT, ev_nF, ev_nlT, ev_nlF, m0, l8, c1, l7, k2, g, k3, f0, w6, Nat.add_zero]
          exact ih'
      · rw [if_neg g, ite_self, ite_self, Nat.add_zero, Nat.add_zero] at ih'
        by_cases f : S (49 + i) = 1
        · simp (disch := first | omega | assumption) only [ev_add, ev_mul, ev_rem, ev_sub, ev_ltT, ev_ltF, ev_leT, ev_leF, ev_eqT, ev_eqF, ev_cl, ev_in, gd_t, bd_s, lt_e, ev_of, ↓reduceIte, decide_true, true_or, or_true, ev_l0, ev_l1, ev_l2, ev_l3, ev_l4, ev_l5, ev_l6, ev_l7, ev_l8, ev_l9, ev_l10, ev_l11, ev_l12, ev_l13, ev_l14, ev_l15, ev_l16, ev_l17, ev_l18, ev_l19, ev_l20, ev_l21, ev_l22, ev_l23, ev_l24, ev_l25, ev_l26, ev_l30, ev_l31, ev_l32, ev_l37, ev_l40, ev_l41, ev_l43, ev_l48, ev_l49, ev_l51, ev_l55, ev_l57, ev_l58, ev_l60, ev_l61, ev_l79, ev_l85, ev_l91, ev_l99, ev_l100, ev_l107, ev_l115, ev_l127, ev_l140, ev_l215, ev_l220, ev_l920, ev_l9999, ev_nT, ev_nF, ev_nlT, ev_nlF, m0, l8, c1, l7, k2, k3, f, Nat.add_zero]
          exact ih'
        · have f0 : S (49 + i) = 0 := by omega
          simp (disch := first | omega | assumption) only [ev_add, ev_mul, ev_rem, ev_sub, ev_ltT, ev_ltF, ev_leT, ev_leF, ev_eqT, ev_eqF, ev_cl, ev_in, gd_t, bd_s, lt_e, ev_of, ↓reduceIte, decide_true, true_or, or_true, ev_l0, ev_l1, ev_l2, ev_l3, ev_l4, ev_l5, ev_l6, ev_l7, ev_l8, ev_l9, ev_l10, ev_l11, ev_l12, ev_l13, ev_l14, ev_l15, ev_l16, ev_l17, ev_l18, ev_l19, ev_l20, ev_l21, ev_l22, ev_l23, ev_l24, ev_l25, ev_l26, ev_l30, ev_l31, ev_l32, ev_l37, ev_l40, ev_l41, ev_l43, ev_l48, ev_l49, ev_l51, ev_l55, ev_l57, ev_l58, ev_l60, ev_l61, ev_l79, ev_l85, ev_l91, ev_l99, ev_l100, ev_l107, ev_l115, ev_l127, ev_l140, ev_l215, ev_l220, ev_l920, ev_l9999, ev_nT, ev_nF, ev_nlT, ev_nlF, m0, l8, c1, l7, k2, k3, f0, Nat.add_zero]
          exact ih'
theorem op_ward : lw_op_ward RR := by
  intro t σl σm a0 hR
  obtain ⟨S, F, hl, hm, hw, h20⟩ := RR_o hR
  have n6 : σl 0 0 = nI (S 6) := hl.1.1.1
  have n7 : σl 0 1 = nI (S 7) := hl.1.1.2.1
  have n0 : σl 0 2 = nI (S 0) := hl.1.1.2.2.1
  have m0 : σm 1 0 = nI (S 0) := hm.1.1 0 (by omega) (by omega) (by omega)
  have m6 : σm 1 6 = nI (S 6) := hm.1.1 6 (by omega) (by omega) (by omega)
  have m7 : σm 1 7 = nI (S 7) := hm.1.1 7 (by omega) (by omega) (by omega)
  have bw := hw.1.2.1
  have b7 := hw.1.1 7
  unfold f_X5_ward f_X6_ward
  rcases ix_p a0 3 (by omega) with h | ⟨w, hw3, rfl⟩
  · simp (disch := first | omega | assumption) only [ev_add, ev_mul, ev_rem, ev_sub, ev_ltT, ev_ltF, ev_leT, ev_leF, ev_eqT, ev_eqF, ev_cl, ev_in, gd_t, bd_s, lt_e, ev_of, ↓reduceIte, decide_true, true_or, or_true, ev_l0, ev_l1, ev_l2, ev_l3, ev_l4, ev_l5, ev_l6, ev_l7, ev_l8, ev_l9, ev_l10, ev_l11, ev_l12, ev_l13, ev_l14, ev_l15, ev_l16, ev_l17, ev_l18, ev_l19, ev_l20, ev_l21, ev_l22, ev_l23, ev_l24, ev_l25, ev_l26, ev_l30, ev_l31, ev_l32, ev_l37, ev_l40, ev_l41, ev_l43, ev_l48, ev_l49, ev_l51, ev_l55, ev_l57, ev_l58, ev_l60, ev_l61, ev_l79, ev_l85, ev_l91, ev_l99, ev_l100, ev_l107, ev_l115, ev_l127, ev_l140, ev_l215, ev_l220, ev_l920, ev_l9999, ev_nT, ev_nF, ev_nlT, ev_nlF, wi_e, show f_X6_in a0 (nI 0) (nI 2) = _ from in_f (n := 3) h (by omega) (by omega)]
    exact ⟨_, _, _, rfl, rfl, hR⟩
  · obtain ⟨σl2, u1, u2, u3, u4⟩ := NL_pass hl hw h20
    obtain ⟨σm1, σm2, g1, g2, g3, g4⟩ := NM_pass hm hw
    have fin : RR t σl2 σm2 := RR_night hR u2 u3 g3
    have bb := tp_b (F := F) hw.1 (k := 7)
    simp (disch := first | omega | assumption) only [ev_add, ev_mul, ev_rem, ev_sub, ev_ltT, ev_ltF, ev_leT, ev_leF, ev_eqT, ev_eqF, ev_cl, ev_in, gd_t, bd_s, lt_e, ev_of, ↓reduceIte, decide_true, true_or, or_true, ev_l0, ev_l1, ev_l2, ev_l3, ev_l4, ev_l5, ev_l6, ev_l7, ev_l8, ev_l9, ev_l10, ev_l11, ev_l12, ev_l13, ev_l14, ev_l15, ev_l16, ev_l17, ev_l18, ev_l19, ev_l20, ev_l21, ev_l22, ev_l23, ev_l24, ev_l25, ev_l26, ev_l30, ev_l31, ev_l32, ev_l37, ev_l40, ev_l41, ev_l43, ev_l48, ev_l49, ev_l51, ev_l55, ev_l57, ev_l58, ev_l60, ev_l61, ev_l79, ev_l85, ev_l91, ev_l99, ev_l100, ev_l107, ev_l115, ev_l127, ev_l140, ev_l215, ev_l220, ev_l920, ev_l9999, ev_nT, ev_nF, ev_nlT, ev_nlF, wi_e, show f_X6_in (nI w) (nI 0) (nI 2) = _ from in_t (n := 3) hw3 (by omega), u1, g1, g2, cl_ward u4 hw bb hw3, cm_ward g4 hw bb hw3]
    exact ⟨_, _, _, rfl, rfl, fin⟩
/-! looked -/
theorem cl_after {t : jx_T} {S : Nat → Nat} {F : rt_F} {σ : jx_M} (h : cs_l t S F σ) (hw : cs_w S F) (hc : nc_l S F σ) (h20 : σ 0 20 = -1) {v m : Nat} (hv : v < S 0) (hm : m ≤ 12) : f_X2_placeAfter t σ (nI v) (nI m) = some (nI (sp_d (sp_G S F 7) (min (sp_dl S v + sp_b S F v (sp_s S v)) m - sp_dl S v) (sp_dl S v) (sp_s S v))) := by
  have b6 := hw.1.2.1
  have sl := sp_s_lt hw.1 hv
  have d := sp_dl_lt S v
  have e := sp_b_le S F v (sp_s S v)
  unfold f_X2_placeAfter
  by_cases g : sp_dl S v + sp_b S F v (sp_s S v) < m
  · have af := cl_afloat (t := t) hw.1 hc (st_k7 h20) (a := sp_dl S v) (b := sp_dl S v + sp_b S F v (sp_s S v)) (by omega) (by omega) sl
    rw [show min (sp_dl S v + sp_b S F v (sp_s S v)) 12 = min (sp_dl S v + sp_b S F v (sp_s S v)) m by omega] at af
    simp (disch := first | omega | assumption) only [ev_add, ev_mul, ev_rem, ev_sub, ev_ltT, ev_ltF, ev_leT, ev_leF, ev_eqT, ev_eqF, ev_cl, ev_in, gd_t, bd_s, lt_e, ev_of, ↓reduceIte, decide_true, true_or, or_true, ev_l0, ev_l1, ev_l2, ev_l3, ev_l4, ev_l5, ev_l6, ev_l7, ev_l8, ev_l9, ev_l10, ev_l11, ev_l12, ev_l13, ev_l14, ev_l15, ev_l16, ev_l17, ev_l18, ev_l19, ev_l20, ev_l21, ev_l22, ev_l23, ev_l24, ev_l25, ev_l26, ev_l30, ev_l31, ev_l32, ev_l37, ev_l40, ev_l41, ev_l43, ev_l48, ev_l49, ev_l51, ev_l55, ev_l57, ev_l58, ev_l60, ev_l61, ev_l79, ev_l85, ev_l91, ev_l99, ev_l100, ev_l107, ev_l115, ev_l127, ev_l140, ev_l215, ev_l220, ev_l920, ev_l9999, ev_nT, ev_nF, ev_nlT, ev_nlF, cl_sets h hw hv, cl_delay h hw (show v < 6 by omega), cl_burns h hw hc (show v < 6 by omega) sl, af]
  · have af := cl_afloat (t := t) hw.1 hc (st_k7 h20) (a := sp_dl S v) (b := m) (by omega) (by omega) sl
    rw [show min m 12 = min (sp_dl S v + sp_b S F v (sp_s S v)) m by omega] at af
    simp (disch := first | omega | assumption) only [ev_add, ev_mul, ev_rem, ev_sub, ev_ltT, ev_ltF, ev_leT, ev_leF, ev_eqT, ev_eqF, ev_cl, ev_in, gd_t, bd_s, lt_e, ev_of, ↓reduceIte, decide_true, true_or, or_true, ev_l0, ev_l1, ev_l2, ev_l3, ev_l4, ev_l5, ev_l6, ev_l7, ev_l8, ev_l9, ev_l10, ev_l11, ev_l12, ev_l13, ev_l14, ev_l15, ev_l16, ev_l17, ev_l18, ev_l19, ev_l20, ev_l21, ev_l22, ev_l23, ev_l24, ev_l25, ev_l26, ev_l30, ev_l31, ev_l32, ev_l37, ev_l40, ev_l41, ev_l43, ev_l48, ev_l49, ev_l51, ev_l55, ev_l57, ev_l58, ev_l60, ev_l61, ev_l79, ev_l85, ev_l91, ev_l99, ev_l100, ev_l107, ev_l115, ev_l127, ev_l140, ev_l215, ev_l220, ev_l920, ev_l9999, ev_nT, ev_nF, ev_nlT, ev_nlF, cl_sets h hw hv, cl_delay h hw (show v < 6 by omega), cl_burns h hw hc (show v < 6 by omega) sl, af]
theorem op_looked : lw_op_looked RR := by
  intro t σl σm hR
  obtain ⟨S, F, hl, hm, hw, h20⟩ := RR_o hR
  have n6 : σl 0 0 = nI (S 6) := hl.1.1.1
  have n7 : σl 0 1 = nI (S 7) := hl.1.1.2.1
  have n0 : σl 0 2 = nI (S 0) := hl.1.1.2.2.1
  have m0 : σm 1 0 = nI (S 0) := hm.1.1 0 (by omega) (by omega) (by omega)
  have m6 : σm 1 6 = nI (S 6) := hm.1.1 6 (by omega) (by omega) (by omega)
  have m7 : σm 1 7 = nI (S 7) := hm.1.1 7 (by omega) (by omega) (by omega)
  have bw := hw.1.2.1
  have b7 := hw.1.1 7
  unfold f_X5_looked f_X6_looked f_X2_firstUntrue
  obtain ⟨σl2, u1, u2, u3⟩ := chart_e hl hw
  obtain ⟨σm2, g1, g2, g3⟩ := lfn_e hm hw
  have z20 : σl2 0 20 = -1 := (congrFun (u2 0 (by omega) (by omega)) 20).trans h20
  have hl2 := cs_l_k hl (ch_n u2)
  have n3 : σl2 0 6 = nI (S 3) := hl2.1.1.2.2.2.2.2.2
  have key := lq_ (X := jx_M) (fun n i τ => ∃ r σm', b_X2_firstUntrue_6 t n σl2 (nI i) = some (r, σl2) ∧ b_X6_looked_6 n τ (nI i) = some (r, σm') ∧ nm_k σm σm') (fun _ τ => nm_k σm τ ∧ nc_m S F 7 τ) (S 3) ?_ ?_ 0 σm2 (by omega) (by omega) ⟨nx_k_n g2, g3⟩
  · obtain ⟨r, σm3, q1, q2, q3⟩ := key
    simp (disch := first | omega | assumption) only [ev_add, ev_mul, ev_rem, ev_sub, ev_ltT, ev_ltF, ev_leT, ev_leF, ev_eqT, ev_eqF, ev_cl, ev_in, gd_t, bd_s, lt_e, ev_of, ↓reduceIte, decide_true, true_or, or_true, ev_l0, ev_l1, ev_l2, ev_l3, ev_l4, ev_l5, ev_l6, ev_l7, ev_l8, ev_l9, ev_l10, ev_l11, ev_l12, ev_l13, ev_l14, ev_l15, ev_l16, ev_l17, ev_l18, ev_l19, ev_l20, ev_l21, ev_l22, ev_l23, ev_l24, ev_l25, ev_l26, ev_l30, ev_l31, ev_l32, ev_l37, ev_l40, ev_l41, ev_l43, ev_l48, ev_l49, ev_l51, ev_l55, ev_l57, ev_l58, ev_l60, ev_l61, ev_l79, ev_l85, ev_l91, ev_l99, ev_l100, ev_l107, ev_l115, ev_l127, ev_l140, ev_l215, ev_l220, ev_l920, ev_l9999, ev_nT, ev_nF, ev_nlT, ev_nlF, u1, g1, show b_X2_firstUntrue_6 t jx_fuel σl2 (nI 0) = _ from q1, show b_X6_looked_6 jx_fuel σm2 (nI 0) = _ from q2]
    exact ⟨_, _, _, rfl, rfl, RR_night hR (ch_n u2) z20 q3⟩
  · intro n τ ⟨i1, i2⟩
    have mm : τ 1 3 = nI (S 3) := by rw [i1.1]; exact hm.1.1 3 (by omega) (by omega) (by omega)
    simp only [b_X2_firstUntrue_6, g_X2_firstUntrue_6, b_X6_looked_6, g_X6_looked_6]
    simp (disch := first | omega | assumption) only [ev_add, ev_mul, ev_rem, ev_sub, ev_ltT, ev_ltF, ev_leT, ev_leF, ev_eqT, ev_eqF, ev_cl, ev_in, gd_t, bd_s, lt_e, ev_of, ↓reduceIte, decide_true, true_or, or_true, ev_l0, ev_l1, ev_l2, ev_l3, ev_l4, ev_l5, ev_l6, ev_l7, ev_l8, ev_l9, ev_l10, ev_l11, ev_l12, ev_l13, ev_l14, ev_l15, ev_l16, ev_l17, ev_l18, ev_l19, ev_l20, ev_l21, ev_l22, ev_l23, ev_l24, ev_l25, ev_l26, ev_l30, ev_l31, ev_l32, ev_l37, ev_l40, ev_l41, ev_l43, ev_l48, ev_l49, ev_l51, ev_l55, ev_l57, ev_l58, ev_l60, ev_l61, ev_l79, ev_l85, ev_l91, ev_l99, ev_l100, ev_l107, ev_l115, ev_l127, ev_l140, ev_l215, ev_l220, ev_l920, ev_l9999, ev_nT, ev_nF, ev_nlT, ev_nlF, n3, mm]
    exact ⟨_, _, rfl, rfl, i1⟩
  · intro n i τ hi ⟨i1, i2⟩ ih
    have hm2 := cs_m_k hm i1.1
    have mm : τ 1 3 = nI (S 3) := hm2.1.1 3 (by omega) (by omega) (by omega)
    have a1 := hm2.1.1 (91 + i) (by omega) (by omega) (by omega)
    have a2 := hm2.1.1 (99 + i) (by omega) (by omega) (by omega)
    have c := hl2.1.2.2.2.2.2 i (by omega)
    have b := hw.1.2.2.2.2.2.2 i hi
    have sl := sp_s_lt hw.1 b.1
    obtain ⟨τ2, e1, e2⟩ := cm_lamp hm2 hw i2 (v := S (91 + i)) (p := sp_s S (S (91 + i))) (mi := S (99 + i)) (by omega) sl b.2.1
    have a3 : τ2 1 (107 + i) = nI (S (107 + i)) := by rw [(ml_k_n e2).1]; exact hm2.1.1 (107 + i) (by omega) (by omega) (by omega)
    have af := cl_after hl2 hw u3 z20 b.1 b.2.1
    have dl := sp_d_lt (F := F) hw.1 (k := 7) (min (sp_dl S (S (91 + i)) + sp_b S F (S (91 + i)) (sp_s S (S (91 + i)))) (S (99 + i)) - sp_dl S (S (91 + i))) (sp_dl S (S (91 + i))) (sp_s S (S (91 + i))) sl
    simp only [b_X2_firstUntrue_6, g_X2_firstUntrue_6, b_X6_looked_6, g_X6_looked_6]
    simp (disch := first | omega | assumption) only [ev_add, ev_mul, ev_rem, ev_sub, ev_ltT, ev_ltF, ev_leT, ev_leF, ev_eqT, ev_eqF, ev_cl, ev_in, gd_t, bd_s, lt_e, ev_of, ↓reduceIte, decide_true, true_or, or_true, ev_l0, ev_l1, ev_l2, ev_l3, ev_l4, ev_l5, ev_l6, ev_l7, ev_l8, ev_l9, ev_l10, ev_l11, ev_l12, ev_l13, ev_l14, ev_l15, ev_l16, ev_l17, ev_l18, ev_l19, ev_l20, ev_l21, ev_l22, ev_l23, ev_l24, ev_l25, ev_l26, ev_l30, ev_l31, ev_l32, ev_l37, ev_l40, ev_l41, ev_l43, ev_l48, ev_l49, ev_l51, ev_l55, ev_l57, ev_l58, ev_l60, ev_l61, ev_l79, ev_l85, ev_l91, ev_l99, ev_l100, ev_l107, ev_l115, ev_l127, ev_l140, ev_l215, ev_l220, ev_l920, ev_l9999, ev_nT, ev_nF, ev_nlT, ev_nlF, n3, mm, a1, a2, c.1, c.2.1, c.2.2, af, cm_sets hm2.1 hw.1 b.1, e1, a3]
    by_cases z : sp_d (sp_G S F 7) (min (sp_dl S (S (91 + i)) + sp_b S F (S (91 + i)) (sp_s S (S (91 + i)))) (S (99 + i)) - sp_dl S (S (91 + i))) (sp_dl S (S (91 + i))) (sp_s S (S (91 + i))) = S (107 + i)
    · simp (disch := first | omega | assumption) only [ev_add, ev_mul, ev_rem, ev_sub, ev_ltT, ev_ltF, ev_leT, ev_leF, ev_eqT, ev_eqF, ev_cl, ev_in, gd_t, bd_s, lt_e, ev_of, ↓reduceIte, decide_true, true_or, or_true, ev_l0, ev_l1, ev_l2, ev_l3, ev_l4, ev_l5, ev_l6, ev_l7, ev_l8, ev_l9, ev_l10, ev_l11, ev_l12, ev_l13, ev_l14, ev_l15, ev_l16, ev_l17, ev_l18, ev_l19, ev_l20, ev_l21, ev_l22, ev_l23, ev_l24, ev_l25, ev_l26, ev_l30, ev_l31, ev_l32, ev_l37, ev_l40, ev_l41, ev_l43, ev_l48, ev_l49, ev_l51, ev_l55, ev_l57, ev_l58, ev_l60, ev_l61, ev_l79, ev_l85, ev_l91, ev_l99, ev_l100, ev_l107, ev_l115, ev_l127, ev_l140, ev_l215, ev_l220, ev_l920, ev_l9999, ev_nT, ev_nF, ev_nlT, ev_nlF, z]
      exact ih _ ⟨nm_k_t i1 (ml_k_n e2), nc_m_c i2 (e2.1 5 (by omega) (by omega) (by omega)) (e2.1 6 (by omega) (by omega) (by omega))⟩
    · simp (disch := first | omega | assumption) only [ev_add, ev_mul, ev_rem, ev_sub, ev_ltT, ev_ltF, ev_leT, ev_leF, ev_eqT, ev_eqF, ev_cl, ev_in, gd_t, bd_s, lt_e, ev_of, ↓reduceIte, decide_true, true_or, or_true, ev_l0, ev_l1, ev_l2, ev_l3, ev_l4, ev_l5, ev_l6, ev_l7, ev_l8, ev_l9, ev_l10, ev_l11, ev_l12, ev_l13, ev_l14, ev_l15, ev_l16, ev_l17, ev_l18, ev_l19, ev_l20, ev_l21, ev_l22, ev_l23, ev_l24, ev_l25, ev_l26, ev_l30, ev_l31, ev_l32, ev_l37, ev_l40, ev_l41, ev_l43, ev_l48, ev_l49, ev_l51, ev_l55, ev_l57, ev_l58, ev_l60, ev_l61, ev_l79, ev_l85, ev_l91, ev_l99, ev_l100, ev_l107, ev_l115, ev_l127, ev_l140, ev_l215, ev_l220, ev_l920, ev_l9999, ev_nT, ev_nF, ev_nlT, ev_nlF]
      exact ⟨_, _, rfl, rfl, nm_k_t i1 (ml_k_n e2)⟩
/-! fits -/
def sp_k (L : Nat → Nat) (q : Nat) : Nat → Nat
  | 0 => 0
  | i + 1 => sp_k L q i + if L i = q then 1 else 0
theorem sp_k_le (L : Nat → Nat) (q : Nat) : ∀ i, sp_k L q i ≤ i
  | 0 => Nat.le_refl 0
  | i + 1 => by
    have h := sp_k_le L q i
    show sp_k L q i + (if L i = q then 1 else 0) ≤ i + 1
    split <;> omega
def sp_as (f : Nat → Bool) : Nat → Bool
  | 0 => true
  | i + 1 => sp_as f i && f i
theorem sp_as_f (f : Nat → Bool) {j : Nat} (h : f j = false) : ∀ n, j < n → sp_as f n = false
  | 0, g => absurd g (by omega)
  | n + 1, g => by
    show (sp_as f n && f n) = false
    by_cases e : j = n
    · subst e; rw [h, Bool.and_false]
    · rw [sp_as_f f h n (by omega), Bool.false_and]
theorem ll57 : ll_len 57 = 7 := by decide
theorem cl_fill {t : jx_T} {σ : jx_M} : ∃ σ', f_J7_fill_53178 t σ 57 (nI 0) = some σ' ∧ (∀ b, ¬ b = 57 → σ' b = σ b) ∧ ∀ q, q < 7 → σ' 57 q = nI 0 := by
  unfold f_J7_fill_53178
  rw [ll57, show (decide (1 ≤ 57 ∧ 57 ≤ 65)) = true from rfl, gd_t, lt_e]
  refine lq_ (fun n i τ => ∃ σ', b_J7_fill_53178_5 t n τ 57 (nI 0) (nI i) (nI 7) = some σ' ∧ (∀ b, ¬ b = 57 → σ' b = σ b) ∧ ∀ q, q < 7 → σ' 57 q = nI 0) (fun i τ => (∀ b, ¬ b = 57 → τ b = σ b) ∧ ∀ q, q < i → τ 57 q = nI 0) 7 ?_ ?_ 0 σ (by omega) (by omega) ⟨fun _ _ => rfl, fun q hq => absurd hq (by omega)⟩
  · intro n τ ⟨i1, i2⟩
    simp only [b_J7_fill_53178_5, g_J7_fill_53178_5]
    simp (disch := first | omega | assumption) only [ev_add, ev_mul, ev_rem, ev_sub, ev_ltT, ev_ltF, ev_leT, ev_leF, ev_eqT, ev_eqF, ev_cl, ev_in, gd_t, bd_s, lt_e, ev_of, ↓reduceIte, decide_true, true_or, or_true, ev_l0, ev_l1, ev_l2, ev_l3, ev_l4, ev_l5, ev_l6, ev_l7, ev_l8, ev_l9, ev_l10, ev_l11, ev_l12, ev_l13, ev_l14, ev_l15, ev_l16, ev_l17, ev_l18, ev_l19, ev_l20, ev_l21, ev_l22, ev_l23, ev_l24, ev_l25, ev_l26, ev_l30, ev_l31, ev_l32, ev_l37, ev_l40, ev_l41, ev_l43, ev_l48, ev_l49, ev_l51, ev_l55, ev_l57, ev_l58, ev_l60, ev_l61, ev_l79, ev_l85, ev_l91, ev_l99, ev_l100, ev_l107, ev_l115, ev_l127, ev_l140, ev_l215, ev_l220, ev_l920, ev_l9999, ev_nT, ev_nF, ev_nlT, ev_nlF]
    exact ⟨_, rfl, i1, i2⟩
  · intro n i τ hi ⟨i1, i2⟩ ih
    simp only [b_J7_fill_53178_5, g_J7_fill_53178_5]
    simp (disch := first | omega | assumption) only [ev_add, ev_mul, ev_rem, ev_sub, ev_ltT, ev_ltF, ev_leT, ev_leF, ev_eqT, ev_eqF, ev_cl, ev_in, gd_t, bd_s, lt_e, ev_of, ↓reduceIte, decide_true, true_or, or_true, ev_l0, ev_l1, ev_l2, ev_l3, ev_l4, ev_l5, ev_l6, ev_l7, ev_l8, ev_l9, ev_l10, ev_l11, ev_l12, ev_l13, ev_l14, ev_l15, ev_l16, ev_l17, ev_l18, ev_l19, ev_l20, ev_l21, ev_l22, ev_l23, ev_l24, ev_l25, ev_l26, ev_l30, ev_l31, ev_l32, ev_l37, ev_l40, ev_l41, ev_l43, ev_l48, ev_l49, ev_l51, ev_l55, ev_l57, ev_l58, ev_l60, ev_l61, ev_l79, ev_l85, ev_l91, ev_l99, ev_l100, ev_l107, ev_l115, ev_l127, ev_l140, ev_l215, ev_l220, ev_l920, ev_l9999, ev_nT, ev_nF, ev_nlT, ev_nlF, ll57]
    refine ih _ ⟨fun b hb => ?_, fun q hq => ?_⟩
    · rw [mu_a hb]; exact i1 b hb
    · by_cases e : q = i
      · subst e; exact mu_s
      · rw [mu_n e]; exact i2 q (by omega)
theorem cl_count {t : jx_T} {S : Nat → Nat} {F : rt_F} {k : Nat} {L C : Nat → Nat} {σ : jx_M} (h : NL t S F k L C σ) (hw : cs_w S F) (hb : ns_b S L C) : ∃ σ', f_X2_countLamps t σ = some σ' ∧ lg_k σ σ' ∧ NL t S F k L C σ' ∧ ∀ q, q < 7 → σ' 57 q = nI (sp_k L q (S 0)) := by
  have b6 := hw.1.2.1
  have n0 : σ 0 2 = nI (S 0) := h.1.1.1.2.2.1
  obtain ⟨σ1, e1, e2, e3⟩ := cl_fill (t := t) (σ := σ)
  unfold f_X2_countLamps
  rw [show f_J7_fill_53178 t σ 57 (0 : Int32) = _ from e1, bd_s]
  have key := lq_ (fun n i τ => ∃ σ', b_X2_countLamps_10 t n τ (nI i) = some σ' ∧ (∀ b, ¬ b = 57 → σ' b = σ b) ∧ ∀ q, q < 7 → σ' 57 q = nI (sp_k L q (S 0))) (fun i τ => (∀ b, ¬ b = 57 → τ b = σ b) ∧ ∀ q, q < 7 → τ 57 q = nI (sp_k L q i)) (S 0) ?_ ?_ 0 σ1 (by omega) (by omega) ⟨e2, e3⟩
  · obtain ⟨σ2, q1, q2, q3⟩ := key
    have lg : lg_k σ σ2 := fun b h1 _ _ => q2 b h1
    refine ⟨σ2, q1, lg, ⟨cs_l_k h.1 (lg_n lg), nc_l_c h.2.1 (fun b _ _ => q2 b (by omega)), ?_, ?_⟩, q3⟩
    · unfold st_k
      rw [q2 0 (by omega)]
      exact h.2.2.1
    · intro v hv
      rw [q2 58 (by omega), q2 59 (by omega)]
      exact h.2.2.2 v hv
  · intro n τ ⟨i1, i2⟩
    simp only [b_X2_countLamps_10, g_X2_countLamps_10]
    simp (disch := first | omega | assumption) only [ev_add, ev_mul, ev_rem, ev_sub, ev_ltT, ev_ltF, ev_leT, ev_leF, ev_eqT, ev_eqF, ev_cl, ev_in, gd_t, bd_s, lt_e, ev_of, ↓reduceIte, decide_true, true_or, or_true, ev_l0, ev_l1, ev_l2, ev_l3, ev_l4, ev_l5, ev_l6, ev_l7, ev_l8, ev_l9, ev_l10, ev_l11, ev_l12, ev_l13, ev_l14, ev_l15, ev_l16, ev_l17, ev_l18, ev_l19, ev_l20, ev_l21, ev_l22, ev_l23, ev_l24, ev_l25, ev_l26, ev_l30, ev_l31, ev_l32, ev_l37, ev_l40, ev_l41, ev_l43, ev_l48, ev_l49, ev_l51, ev_l55, ev_l57, ev_l58, ev_l60, ev_l61, ev_l79, ev_l85, ev_l91, ev_l99, ev_l100, ev_l107, ev_l115, ev_l127, ev_l140, ev_l215, ev_l220, ev_l920, ev_l9999, ev_nT, ev_nF, ev_nlT, ev_nlF, show τ 0 2 = nI (S 0) by rw [i1 0 (by omega)]; exact n0]
    exact ⟨_, rfl, i1, i2⟩
  · intro n i τ hi ⟨i1, i2⟩ ih
    have w8 : τ 58 i = nI (L i) := by rw [i1 58 (by omega)]; exact (h.2.2.2 i hi).1
    have bL := (hb i hi).1
    have c := i2 (L i) (by omega)
    have kl := sp_k_le L (L i) i
    simp only [b_X2_countLamps_10, g_X2_countLamps_10]
    simp (disch := first | omega | assumption) only [ev_add, ev_mul, ev_rem, ev_sub, ev_ltT, ev_ltF, ev_leT, ev_leF, ev_eqT, ev_eqF, ev_cl, ev_in, gd_t, bd_s, lt_e, ev_of, ↓reduceIte, decide_true, true_or, or_true, ev_l0, ev_l1, ev_l2, ev_l3, ev_l4, ev_l5, ev_l6, ev_l7, ev_l8, ev_l9, ev_l10, ev_l11, ev_l12, ev_l13, ev_l14, ev_l15, ev_l16, ev_l17, ev_l18, ev_l19, ev_l20, ev_l21, ev_l22, ev_l23, ev_l24, ev_l25, ev_l26, ev_l30, ev_l31, ev_l32, ev_l37, ev_l40, ev_l41, ev_l43, ev_l48, ev_l49, ev_l51, ev_l55, ev_l57, ev_l58, ev_l60, ev_l61, ev_l79, ev_l85, ev_l91, ev_l99, ev_l100, ev_l107, ev_l115, ev_l127, ev_l140, ev_l215, ev_l220, ev_l920, ev_l9999, ev_nT, ev_nF, ev_nlT, ev_nlF, show τ 0 2 = nI (S 0) by rw [i1 0 (by omega)]; exact n0, w8, c]
    refine ih _ ⟨fun b hb => ?_, fun q hq => ?_⟩
    · rw [mu_a hb]; exact i1 b hb
    · show _ = nI (sp_k L q i + if L i = q then 1 else 0)
      by_cases e : q = L i
      · subst e; rw [mu_s, if_pos rfl]
      · rw [mu_n e, if_neg (fun z => e z.symm), Nat.add_zero]; exact i2 q hq
theorem cl_seen {t : jx_T} {S : Nat → Nat} {F : rt_F} {L : Nat → Nat} {σ : jx_M} (h : cs_l t S F σ) (hw : cs_w S F) (hk : ∀ q, q < 7 → σ 57 q = nI (sp_k L q (S 0))) : f_X2_isAsSeen t σ = some (nI (if sp_as (fun k => decide (sp_k L (S (79 + k)) (S 0) = S (85 + k))) (S 2) = true then 1 else 0)) := by
  have b6 := hw.1.2.1
  have n2 : σ 0 5 = nI (S 2) := h.1.1.2.2.2.2.2.1
  unfold f_X2_isAsSeen
  refine lq_ (X := Unit) (fun n i _ => b_X2_isAsSeen_2 t n σ (nI i) = some (nI (if sp_as (fun k => decide (sp_k L (S (79 + k)) (S 0) = S (85 + k))) (S 2) = true then 1 else 0))) (fun i _ => sp_as (fun k => decide (sp_k L (S (79 + k)) (S 0) = S (85 + k))) i = true) (S 2) ?_ ?_ 0 () (by omega) (by omega) rfl
  · intro n _ i1
    simp only [b_X2_isAsSeen_2, g_X2_isAsSeen_2]
    rw [i1]
    simp (disch := first | omega | assumption) only [ev_add, ev_mul, ev_rem, ev_sub, ev_ltT, ev_ltF, ev_leT, ev_leF, ev_eqT, ev_eqF, ev_cl, ev_in, gd_t, bd_s, lt_e, ev_of, ↓reduceIte, decide_true, true_or, or_true, ev_l0, ev_l1, ev_l2, ev_l3, ev_l4, ev_l5, ev_l6, ev_l7, ev_l8, ev_l9, ev_l10, ev_l11, ev_l12, ev_l13, ev_l14, ev_l15, ev_l16, ev_l17, ev_l18, ev_l19, ev_l20, ev_l21, ev_l22, ev_l23, ev_l24, ev_l25, ev_l26, ev_l30, ev_l31, ev_l32, ev_l37, ev_l40, ev_l41, ev_l43, ev_l48, ev_l49, ev_l51, ev_l55, ev_l57, ev_l58, ev_l60, ev_l61, ev_l79, ev_l85, ev_l91, ev_l99, ev_l100, ev_l107, ev_l115, ev_l127, ev_l140, ev_l215, ev_l220, ev_l920, ev_l9999, ev_nT, ev_nF, ev_nlT, ev_nlF, n2]
  · intro n i _ hi i1 ih
    have c := h.1.2.2.2.2.1 i (by omega)
    have b := hw.1.2.2.2.2.2.1 i hi
    have d := hk (S (79 + i)) (by omega)
    have kl := sp_k_le L (S (79 + i)) (S 0)
    simp only [b_X2_isAsSeen_2, g_X2_isAsSeen_2]
    by_cases e : sp_k L (S (79 + i)) (S 0) = S (85 + i)
    · simp (disch := first | omega | assumption) only [ev_add, ev_mul, ev_rem, ev_sub, ev_ltT, ev_ltF, ev_leT, ev_leF, ev_eqT, ev_eqF, ev_cl, ev_in, gd_t, bd_s, lt_e, ev_of, ↓reduceIte, decide_true, true_or, or_true, ev_l0, ev_l1, ev_l2, ev_l3, ev_l4, ev_l5, ev_l6, ev_l7, ev_l8, ev_l9, ev_l10, ev_l11, ev_l12, ev_l13, ev_l14, ev_l15, ev_l16, ev_l17, ev_l18, ev_l19, ev_l20, ev_l21, ev_l22, ev_l23, ev_l24, ev_l25, ev_l26, ev_l30, ev_l31, ev_l32, ev_l37, ev_l40, ev_l41, ev_l43, ev_l48, ev_l49, ev_l51, ev_l55, ev_l57, ev_l58, ev_l60, ev_l61, ev_l79, ev_l85, ev_l91, ev_l99, ev_l100, ev_l107, ev_l115, ev_l127, ev_l140, ev_l215, ev_l220, ev_l920, ev_l9999, ev_nT, ev_nF, ev_nlT, ev_nlF, n2, c.1, c.2, d, e]
      refine ih () ?_
      show (sp_as (fun k => decide (sp_k L (S (79 + k)) (S 0) = S (85 + k))) i && decide (sp_k L (S (79 + i)) (S 0) = S (85 + i))) = true
      rw [i1, decide_eq_true e]; rfl
    · rw [sp_as_f (fun k => decide (sp_k L (S (79 + k)) (S 0) = S (85 + k))) (j := i) (decide_eq_false e) (S 2) hi]
      simp (disch := first | omega | assumption) only [ev_add, ev_mul, ev_rem, ev_sub, ev_ltT, ev_ltF, ev_leT, ev_leF, ev_eqT, ev_eqF, ev_cl, ev_in, gd_t, bd_s, lt_e, ev_of, ↓reduceIte, decide_true, true_or, or_true, ev_l0, ev_l1, ev_l2, ev_l3, ev_l4, ev_l5, ev_l6, ev_l7, ev_l8, ev_l9, ev_l10, ev_l11, ev_l12, ev_l13, ev_l14, ev_l15, ev_l16, ev_l17, ev_l18, ev_l19, ev_l20, ev_l21, ev_l22, ev_l23, ev_l24, ev_l25, ev_l26, ev_l30, ev_l31, ev_l32, ev_l37, ev_l40, ev_l41, ev_l43, ev_l48, ev_l49, ev_l51, ev_l55, ev_l57, ev_l58, ev_l60, ev_l61, ev_l79, ev_l85, ev_l91, ev_l99, ev_l100, ev_l107, ev_l115, ev_l127, ev_l140, ev_l215, ev_l220, ev_l920, ev_l9999, ev_nT, ev_nF, ev_nlT, ev_nlF, n2, c.1, c.2, d, Bool.false_eq_true]
theorem cm_lamps {S : Nat → Nat} {L : Nat → Nat} {σ : jx_M} (m0 : σ 1 0 = nI (S 0)) (b6 : S 0 ≤ 6) (hL : ∀ v, v < S 0 → σ 7 v = nI (L v) ∧ L v < 7) {q : Nat} (hq : q < 7) : f_X6_lampsAt σ (nI q) = some (nI (sp_k L q (S 0))) := by
  unfold f_X6_lampsAt
  refine lq_ (X := Unit) (fun n i _ => b_X6_lampsAt_4 n σ (nI q) (nI (sp_k L q i)) (nI i) = some (nI (sp_k L q (S 0)))) (fun _ _ => True) (S 0) ?_ ?_ 0 () (by omega) (by omega) trivial
  · intro n _ _
    simp only [b_X6_lampsAt_4, g_X6_lampsAt_4]
    simp (disch := first | omega | assumption) only [ev_add, ev_mul, ev_rem, ev_sub, ev_ltT, ev_ltF, ev_leT, ev_leF, ev_eqT, ev_eqF, ev_cl, ev_in, gd_t, bd_s, lt_e, ev_of, ↓reduceIte, decide_true, true_or, or_true, ev_l0, ev_l1, ev_l2, ev_l3, ev_l4, ev_l5, ev_l6, ev_l7, ev_l8, ev_l9, ev_l10, ev_l11, ev_l12, ev_l13, ev_l14, ev_l15, ev_l16, ev_l17, ev_l18, ev_l19, ev_l20, ev_l21, ev_l22, ev_l23, ev_l24, ev_l25, ev_l26, ev_l30, ev_l31, ev_l32, ev_l37, ev_l40, ev_l41, ev_l43, ev_l48, ev_l49, ev_l51, ev_l55, ev_l57, ev_l58, ev_l60, ev_l61, ev_l79, ev_l85, ev_l91, ev_l99, ev_l100, ev_l107, ev_l115, ev_l127, ev_l140, ev_l215, ev_l220, ev_l920, ev_l9999, ev_nT, ev_nF, ev_nlT, ev_nlF, m0]
  · intro n i _ hi _ ih
    obtain ⟨l7, bL⟩ := hL i hi
    have kl := sp_k_le L q i
    have ih' := ih () trivial
    simp only [b_X6_lampsAt_4, g_X6_lampsAt_4, b_X6_lampsAt_30]
    rw [show sp_k L q (i + 1) = sp_k L q i + (if L i = q then 1 else 0) from rfl] at ih'
    by_cases e : L i = q
    · rw [if_pos e] at ih'
      simp (disch := first | omega | assumption) only [ev_add, ev_mul, ev_rem, ev_sub, ev_ltT, ev_ltF, ev_leT, ev_leF, ev_eqT, ev_eqF, ev_cl, ev_in, gd_t, bd_s, lt_e, ev_of, ↓reduceIte, decide_true, true_or, or_true, ev_l0, ev_l1, ev_l2, ev_l3, ev_l4, ev_l5, ev_l6, ev_l7, ev_l8, ev_l9, ev_l10, ev_l11, ev_l12, ev_l13, ev_l14, ev_l15, ev_l16, ev_l17, ev_l18, ev_l19, ev_l20, ev_l21, ev_l22, ev_l23, ev_l24, ev_l25, ev_l26, ev_l30, ev_l31, ev_l32, ev_l37, ev_l40, ev_l41, ev_l43, ev_l48, ev_l49, ev_l51, ev_l55, ev_l57, ev_l58, ev_l60, ev_l61, ev_l79, ev_l85, ev_l91, ev_l99, ev_l100, ev_l107, ev_l115, ev_l127, ev_l140, ev_l215, ev_l220, ev_l920, ev_l9999, ev_nT, ev_nF, ev_nlT, ev_nlF, m0, l7, e]
      exact ih'
    · rw [if_neg e] at ih'
      simp (disch := first | omega | assumption) only [ev_add, ev_mul, ev_rem, ev_sub, ev_ltT, ev_ltF, ev_leT, ev_leF, ev_eqT, ev_eqF, ev_cl, ev_in, gd_t, bd_s, lt_e, ev_of, ↓reduceIte, decide_true, true_or, or_true, ev_l0, ev_l1, ev_l2, ev_l3, ev_l4, ev_l5, ev_l6, ev_l7, ev_l8, ev_l9, ev_l10, ev_l11, ev_l12, ev_l13, ev_l14, ev_l15, ev_l16, ev_l17, ev_l18, ev_l19, ev_l20, ev_l21, ev_l22, ev_l23, ev_l24, ev_l25, ev_l26, ev_l30, ev_l31, ev_l32, ev_l37, ev_l40, ev_l41, ev_l43, ev_l48, ev_l49, ev_l51, ev_l55, ev_l57, ev_l58, ev_l60, ev_l61, ev_l79, ev_l85, ev_l91, ev_l99, ev_l100, ev_l107, ev_l115, ev_l127, ev_l140, ev_l215, ev_l220, ev_l920, ev_l9999, ev_nT, ev_nF, ev_nlT, ev_nlF, m0, l7]
      exact ih'
theorem cm_seen {S : Nat → Nat} {F : rt_F} {k : Nat} {L C : Nat → Nat} {σ : jx_M} (h : NM S F k L C σ) (hw : cs_w S F) (hb : ns_b S L C) (k22 : jx_M → Int32 → Int32 → Int32 → Option (Int32 × jx_M)) (v1 v2 v3 : Int32) : b_X6_fits_45 k22 jx_fuel σ v1 v2 v3 (nI 1) (nI 0) = b_X6_fits_114 k22 σ v1 v3 (if sp_as (fun k => decide (sp_k L (S (79 + k)) (S 0) = S (85 + k))) (S 2) = true then ((1 : Int32) <<< (v3 &&& 31)) else 0) v2 := by
  have b6 := hw.1.2.1
  have m0 : σ 1 0 = nI (S 0) := h.1.1.1 0 (by omega) (by omega) (by omega)
  have m2 : σ 1 2 = nI (S 2) := h.1.1.1 2 (by omega) (by omega) (by omega)
  refine lq_ (X := Unit) (fun n i _ => b_X6_fits_45 k22 n σ v1 v2 v3 (nI (if sp_as (fun k => decide (sp_k L (S (79 + k)) (S 0) = S (85 + k))) i = true then 1 else 0)) (nI i) = b_X6_fits_114 k22 σ v1 v3 (if sp_as (fun k => decide (sp_k L (S (79 + k)) (S 0) = S (85 + k))) (S 2) = true then ((1 : Int32) <<< (v3 &&& 31)) else 0) v2) (fun _ _ => True) (S 2) ?_ ?_ 0 () (by omega) (by omega) trivial
  · intro n _ _
    simp only [b_X6_fits_45, g_X6_fits_45]
    rw [m2, if_pos (Int32.le_refl _)]
    cases sp_as (fun k => decide (sp_k L (S (79 + k)) (S 0) = S (85 + k))) (S 2) with
    | true => rfl
    | false => rfl
  · intro n i _ hi _ ih
    have b := hw.1.2.2.2.2.2.1 i hi
    have a1 := h.1.1.1 (79 + i) (by omega) (by omega) (by omega)
    have a2 := h.1.1.1 (85 + i) (by omega) (by omega) (by omega)
    have la := cm_lamps (S := S) (L := L) (q := S (79 + i)) m0 (by omega) (fun v hv => ⟨(h.2.2 v hv).1, by have := (hb v hv).1; omega⟩) b.1
    have kl := sp_k_le L (S (79 + i)) (S 0)
    have ih' := ih () trivial
    rw [show sp_as (fun k => decide (sp_k L (S (79 + k)) (S 0) = S (85 + k))) (i + 1) = (sp_as (fun k => decide (sp_k L (S (79 + k)) (S 0) = S (85 + k))) i && decide (sp_k L (S (79 + i)) (S 0) = S (85 + i))) from rfl] at ih'
    cases z : sp_as (fun k => decide (sp_k L (S (79 + k)) (S 0) = S (85 + k))) i with
    | false =>
      rw [z, Bool.false_and] at ih'
      simp only [b_X6_fits_45, g_X6_fits_45, b_X6_fits_92, b_X6_fits_93]
      rw [m2, if_neg (nI_ge hi (by omega)), if_pos (show nI (if false = true then 1 else 0) = 0 from rfl), lt_e, show nI i + (1 : Int32) = nI (i + 1) from nI_1 i]
      exact ih'
    | true =>
      rw [z, Bool.true_and] at ih'
      simp only [b_X6_fits_45, g_X6_fits_45, b_X6_fits_92, b_X6_fits_93]
      rw [m2, if_neg (nI_ge hi (by omega)), if_neg (show ¬ nI (if True then 1 else 0) = 0 by decide)]
      by_cases e : sp_k L (S (79 + i)) (S 0) = S (85 + i)
      · rw [decide_eq_true e] at ih'
        simp (disch := first | omega | assumption) only [ev_add, ev_mul, ev_rem, ev_sub, ev_ltT, ev_ltF, ev_leT, ev_leF, ev_eqT, ev_eqF, ev_cl, ev_in, gd_t, bd_s, lt_e, ev_of, ↓reduceIte, decide_true, true_or, or_true, ev_l0, ev_l1, ev_l2, ev_l3, ev_l4, ev_l5, ev_l6, ev_l7, ev_l8, ev_l9, ev_l10, ev_l11, ev_l12, ev_l13, ev_l14, ev_l15, ev_l16, ev_l17, ev_l18, ev_l19, ev_l20, ev_l21, ev_l22, ev_l23, ev_l24, ev_l25, ev_l26, ev_l30, ev_l31, ev_l32, ev_l37, ev_l40, ev_l41, ev_l43, ev_l48, ev_l49, ev_l51, ev_l55, ev_l57, ev_l58, ev_l60, ev_l61, ev_l79, ev_l85, ev_l91, ev_l99, ev_l100, ev_l107, ev_l115, ev_l127, ev_l140, ev_l215, ev_l220, ev_l920, ev_l9999, ev_nT, ev_nF, ev_nlT, ev_nlF, a1, la, a2, e]
        exact ih'
      · rw [decide_eq_false e] at ih'
        simp (disch := first | omega | assumption) only [ev_add, ev_mul, ev_rem, ev_sub, ev_ltT, ev_ltF, ev_leT, ev_leF, ev_eqT, ev_eqF, ev_cl, ev_in, gd_t, bd_s, lt_e, ev_of, ↓reduceIte, decide_true, true_or, or_true, ev_l0, ev_l1, ev_l2, ev_l3, ev_l4, ev_l5, ev_l6, ev_l7, ev_l8, ev_l9, ev_l10, ev_l11, ev_l12, ev_l13, ev_l14, ev_l15, ev_l16, ev_l17, ev_l18, ev_l19, ev_l20, ev_l21, ev_l22, ev_l23, ev_l24, ev_l25, ev_l26, ev_l30, ev_l31, ev_l32, ev_l37, ev_l40, ev_l41, ev_l43, ev_l48, ev_l49, ev_l51, ev_l55, ev_l57, ev_l58, ev_l60, ev_l61, ev_l79, ev_l85, ev_l91, ev_l99, ev_l100, ev_l107, ev_l115, ev_l127, ev_l140, ev_l215, ev_l220, ev_l920, ev_l9999, ev_nT, ev_nF, ev_nlT, ev_nlF, a1, la, a2]
        exact ih'
theorem op_fits : lw_op_fits RR := by
  intro t σl σm a0 hR
  obtain ⟨S, F, hl, hm, hw, h20⟩ := RR_o hR
  have n6 : σl 0 0 = nI (S 6) := hl.1.1.1
  have n7 : σl 0 1 = nI (S 7) := hl.1.1.2.1
  have n0 : σl 0 2 = nI (S 0) := hl.1.1.2.2.1
  have m0 : σm 1 0 = nI (S 0) := hm.1.1 0 (by omega) (by omega) (by omega)
  have m6 : σm 1 6 = nI (S 6) := hm.1.1 6 (by omega) (by omega) (by omega)
  have m7 : σm 1 7 = nI (S 7) := hm.1.1 7 (by omega) (by omega) (by omega)
  have bw := hw.1.2.1
  have b7 := hw.1.1 7
  unfold f_X5_fits f_X6_fits f_X2_fitting
  rcases ix_p a0 (S 0) (by omega) with h | ⟨v, hv, rfl⟩
  · simp (disch := first | omega | assumption) only [ev_add, ev_mul, ev_rem, ev_sub, ev_ltT, ev_ltF, ev_leT, ev_leF, ev_eqT, ev_eqF, ev_cl, ev_in, gd_t, bd_s, lt_e, ev_of, ↓reduceIte, decide_true, true_or, or_true, ev_l0, ev_l1, ev_l2, ev_l3, ev_l4, ev_l5, ev_l6, ev_l7, ev_l8, ev_l9, ev_l10, ev_l11, ev_l12, ev_l13, ev_l14, ev_l15, ev_l16, ev_l17, ev_l18, ev_l19, ev_l20, ev_l21, ev_l22, ev_l23, ev_l24, ev_l25, ev_l26, ev_l30, ev_l31, ev_l32, ev_l37, ev_l40, ev_l41, ev_l43, ev_l48, ev_l49, ev_l51, ev_l55, ev_l57, ev_l58, ev_l60, ev_l61, ev_l79, ev_l85, ev_l91, ev_l99, ev_l100, ev_l107, ev_l115, ev_l127, ev_l140, ev_l215, ev_l220, ev_l920, ev_l9999, ev_nT, ev_nF, ev_nlT, ev_nlF, hv_f n0 h, iv_f m0 (by omega) h]
    exact ⟨_, _, _, rfl, rfl, hR⟩
  · obtain ⟨σl2, u1, u2, u3, u4⟩ := NL_pass hl hw h20
    obtain ⟨σm1, σm2, g1, g2, g3, g4⟩ := NM_pass hm hw
    have bb := tp_b (F := F) hw.1 (k := 7)
    have key := lq_ (X := jx_M × jx_M × Nat) (fun n i s => ∃ r σl' σm', b_X2_fitting_8 t n s.1 (nI v) (nI s.2.2) (nI i) = some (r, σl') ∧ b_X6_fits_22 n s.2.1 (nI v) (nI s.2.2) (nI i) = some (r, σm') ∧ nl_k σl σl' ∧ σl' 0 20 = -1 ∧ nm_k σm σm') (fun i s => nl_k σl s.1 ∧ s.1 0 20 = -1 ∧ nm_k σm s.2.1 ∧ ∃ L C, NL t S F 7 L C s.1 ∧ NM S F 7 L C s.2.1 ∧ ns_b S L C) (S 6) ?_ ?_ 0 (σl2, σm2, 0) (by omega) (by omega) ⟨u2, u3, g3, _, _, u4, g4, bb⟩
    · obtain ⟨r, σl3, σm3, q1, q2, q3, q4, q5⟩ := key
      simp (disch := first | omega | assumption) only [ev_add, ev_mul, ev_rem, ev_sub, ev_ltT, ev_ltF, ev_leT, ev_leF, ev_eqT, ev_eqF, ev_cl, ev_in, gd_t, bd_s, lt_e, ev_of, ↓reduceIte, decide_true, true_or, or_true, ev_l0, ev_l1, ev_l2, ev_l3, ev_l4, ev_l5, ev_l6, ev_l7, ev_l8, ev_l9, ev_l10, ev_l11, ev_l12, ev_l13, ev_l14, ev_l15, ev_l16, ev_l17, ev_l18, ev_l19, ev_l20, ev_l21, ev_l22, ev_l23, ev_l24, ev_l25, ev_l26, ev_l30, ev_l31, ev_l32, ev_l37, ev_l40, ev_l41, ev_l43, ev_l48, ev_l49, ev_l51, ev_l55, ev_l57, ev_l58, ev_l60, ev_l61, ev_l79, ev_l85, ev_l91, ev_l99, ev_l100, ev_l107, ev_l115, ev_l127, ev_l140, ev_l215, ev_l220, ev_l920, ev_l9999, ev_nT, ev_nF, ev_nlT, ev_nlF, hv_t n0 hv (by omega), iv_t m0 hv (by omega), u1, g1, g2, show b_X2_fitting_8 t jx_fuel σl2 (nI v) (nI 0) (nI 0) = _ from q1, show b_X6_fits_22 jx_fuel σm2 (nI v) (nI 0) (nI 0) = _ from q2]
      exact ⟨_, _, _, rfl, rfl, RR_night hR q3 q4 q5⟩
    · intro n s ⟨i1, i2, i3, L, C, i4, i5, i6⟩
      have p6 : s.1 0 0 = nI (S 6) := i4.1.1.1.1
      have r6 : s.2.1 1 6 = nI (S 6) := i5.1.1.1 6 (by omega) (by omega) (by omega)
      simp only [b_X2_fitting_8, g_X2_fitting_8, b_X6_fits_22, g_X6_fits_22]
      simp (disch := first | omega | assumption) only [ev_add, ev_mul, ev_rem, ev_sub, ev_ltT, ev_ltF, ev_leT, ev_leF, ev_eqT, ev_eqF, ev_cl, ev_in, gd_t, bd_s, lt_e, ev_of, ↓reduceIte, decide_true, true_or, or_true, ev_l0, ev_l1, ev_l2, ev_l3, ev_l4, ev_l5, ev_l6, ev_l7, ev_l8, ev_l9, ev_l10, ev_l11, ev_l12, ev_l13, ev_l14, ev_l15, ev_l16, ev_l17, ev_l18, ev_l19, ev_l20, ev_l21, ev_l22, ev_l23, ev_l24, ev_l25, ev_l26, ev_l30, ev_l31, ev_l32, ev_l37, ev_l40, ev_l41, ev_l43, ev_l48, ev_l49, ev_l51, ev_l55, ev_l57, ev_l58, ev_l60, ev_l61, ev_l79, ev_l85, ev_l91, ev_l99, ev_l100, ev_l107, ev_l115, ev_l127, ev_l140, ev_l215, ev_l220, ev_l920, ev_l9999, ev_nT, ev_nF, ev_nlT, ev_nlF, p6, r6]
      exact ⟨_, _, _, rfl, rfl, i1, i2, i3⟩
    · intro n i s hi ⟨i1, i2, i3, L, C, i4, i5, i6⟩ ih
      have p6 : s.1 0 0 = nI (S 6) := i4.1.1.1.1
      have r6 : s.2.1 1 6 = nI (S 6) := i5.1.1.1 6 (by omega) (by omega) (by omega)
      obtain ⟨τ1, e1, e2, e3⟩ := NL_light i4 hw hv hi
      obtain ⟨τ2, f1, f2, f3⟩ := NM_lays i5 hw hv hi
      have nb : ns_b S (upN L v (sp_l S F 7 v i)) (upN C v (sp_c S F v i)) := by
        intro u hu
        by_cases e : u = v
        · subst e; rw [upN_s, upN_s]; exact ⟨sp_l_lt hw.1 hi, sp_c_le S F u i⟩
        · rw [upN_n e, upN_n e]; exact i6 u hu
      obtain ⟨τ3, c1, c2, c3, c4⟩ := cl_count e3 hw nb
      have se := cl_seen c3.1 hw c4
      simp only [b_X2_fitting_8, g_X2_fitting_8, b_X6_fits_22, g_X6_fits_22, b_X2_fitting_42]
      have k1 : nl_k σl τ3 := nl_k_t i1 (nl_k_t (lg_n e2) (lg_n c2))
      have k2 : τ3 0 20 = -1 := by rw [c2 0 (by omega) (by omega) (by omega), e2 0 (by omega) (by omega) (by omega)]; exact i2
      have k3 : nm_k σm τ2 := nm_k_t i3 (ly_k_n f2)
      simp (disch := first | omega | assumption) only [ev_add, ev_mul, ev_rem, ev_sub, ev_ltT, ev_ltF, ev_leT, ev_leF, ev_eqT, ev_eqF, ev_cl, ev_in, gd_t, bd_s, lt_e, ev_of, ↓reduceIte, decide_true, true_or, or_true, ev_l0, ev_l1, ev_l2, ev_l3, ev_l4, ev_l5, ev_l6, ev_l7, ev_l8, ev_l9, ev_l10, ev_l11, ev_l12, ev_l13, ev_l14, ev_l15, ev_l16, ev_l17, ev_l18, ev_l19, ev_l20, ev_l21, ev_l22, ev_l23, ev_l24, ev_l25, ev_l26, ev_l30, ev_l31, ev_l32, ev_l37, ev_l40, ev_l41, ev_l43, ev_l48, ev_l49, ev_l51, ev_l55, ev_l57, ev_l58, ev_l60, ev_l61, ev_l79, ev_l85, ev_l91, ev_l99, ev_l100, ev_l107, ev_l115, ev_l127, ev_l140, ev_l215, ev_l220, ev_l920, ev_l9999, ev_nT, ev_nF, ev_nlT, ev_nlF, p6, r6, e1, f1, c1, se, cm_seen f3 hw nb, b_X6_fits_114]
      cases z : sp_as (fun k => decide (sp_k (upN L v (sp_l S F 7 v i)) (S (79 + k)) (S 0) = S (85 + k))) (S 2) with
      | true =>
        simp (disch := first | omega | assumption) only [ev_add, ev_mul, ev_rem, ev_sub, ev_ltT, ev_ltF, ev_leT, ev_leF, ev_eqT, ev_eqF, ev_cl, ev_in, gd_t, bd_s, lt_e, ev_of, ↓reduceIte, decide_true, true_or, or_true, ev_l0, ev_l1, ev_l2, ev_l3, ev_l4, ev_l5, ev_l6, ev_l7, ev_l8, ev_l9, ev_l10, ev_l11, ev_l12, ev_l13, ev_l14, ev_l15, ev_l16, ev_l17, ev_l18, ev_l19, ev_l20, ev_l21, ev_l22, ev_l23, ev_l24, ev_l25, ev_l26, ev_l30, ev_l31, ev_l32, ev_l37, ev_l40, ev_l41, ev_l43, ev_l48, ev_l49, ev_l51, ev_l55, ev_l57, ev_l58, ev_l60, ev_l61, ev_l79, ev_l85, ev_l91, ev_l99, ev_l100, ev_l107, ev_l115, ev_l127, ev_l140, ev_l215, ev_l220, ev_l920, ev_l9999, ev_nT, ev_nF, ev_nlT, ev_nlF, bi_shl i (by omega), bi_or]
        exact ih (τ3, τ2, s.2.2 ||| 2 ^ i) ⟨k1, k2, k3, _, _, c3, f3, nb⟩
      | false =>
        simp (disch := first | omega | assumption) only [ev_add, ev_mul, ev_rem, ev_sub, ev_ltT, ev_ltF, ev_leT, ev_leF, ev_eqT, ev_eqF, ev_cl, ev_in, gd_t, bd_s, lt_e, ev_of, ↓reduceIte, decide_true, true_or, or_true, ev_l0, ev_l1, ev_l2, ev_l3, ev_l4, ev_l5, ev_l6, ev_l7, ev_l8, ev_l9, ev_l10, ev_l11, ev_l12, ev_l13, ev_l14, ev_l15, ev_l16, ev_l17, ev_l18, ev_l19, ev_l20, ev_l21, ev_l22, ev_l23, ev_l24, ev_l25, ev_l26, ev_l30, ev_l31, ev_l32, ev_l37, ev_l40, ev_l41, ev_l43, ev_l48, ev_l49, ev_l51, ev_l55, ev_l57, ev_l58, ev_l60, ev_l61, ev_l79, ev_l85, ev_l91, ev_l99, ev_l100, ev_l107, ev_l115, ev_l127, ev_l140, ev_l215, ev_l220, ev_l920, ev_l9999, ev_nT, ev_nF, ev_nlT, ev_nlF, bi_or, Bool.false_eq_true, Nat.or_zero]
        exact ih (τ3, τ2, s.2.2) ⟨k1, k2, k3, _, _, c3, f3, nb⟩
