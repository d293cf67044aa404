/-! image, undo -/
theorem cp_e {t : jx_T} {σ : jx_M} {a b N : Nat} (ha : 1 ≤ a ∧ a ≤ 65) (hb : 1 ≤ b ∧ b ≤ 65) (la : ll_len a = N) (lb : ll_len b = N) (hN : N < 900) : f_X1_copyRow t σ a b = some (jx_cp σ a b N) := by
  unfold f_X1_copyRow
  rw [la, lb, ite_self, ev_of, ev_cl (by omega), decide_eq_true ha, decide_eq_true hb, gd_t, gd_t, gd_t, gd_t, decide_eq_true (show ¬ nI N < 0 ∧ N ≤ N ∧ N ≤ N from ⟨nI_pos (by omega), Nat.le_refl _, Nat.le_refl _⟩), gd_t, lt_e]
theorem cp_o {σ : jx_M} {a b N k : Nat} (h : ¬ k = b) : jx_cp σ a b N k = σ k := if_neg h
theorem cp_i {σ : jx_M} {a b N j : Nat} (h : j < N) : jx_cp σ a b N b j = σ a j := by
  unfold jx_cp
  rw [if_pos rfl, pk_cpy_in (Nat.zero_le _) (by omega)]
  rw [Nat.zero_add, Nat.sub_zero]
theorem cr_Iplace {t : jx_T} {σ : jx_M} : ∃ σ', f_X1_copyRows_Iplace t σ = some σ' ∧ (∀ b, ¬ (21 ≤ b ∧ b < 28) → σ' b = σ b) ∧ ∀ i, i < 7 → ∀ j, j < 3 → σ' (21 + i) j = σ (1 + i) j := by
  have la : ∀ i, i < 7 → ll_len (1 + i) = 3 := by decide
  have lb : ∀ i, i < 7 → ll_len (21 + i) = 3 := by decide
  unfold f_X1_copyRows_Iplace
  refine lq_ (fun n i τ => ∃ σ', b_X1_copyRows_Iplace_2 t n τ (nI i) = some σ' ∧ (∀ b, ¬ (21 ≤ b ∧ b < 28) → σ' b = σ b) ∧ ∀ i, i < 7 → ∀ j, j < 3 → σ' (21 + i) j = σ (1 + i) j) (fun i τ => (∀ b, ¬ (21 ≤ b ∧ b < 28) → τ b = σ b) ∧ ∀ k, k < i → ∀ j, j < 3 → τ (21 + k) j = σ (1 + k) j) 7 ?_ ?_ 0 σ (by omega) (by omega) ⟨fun _ _ => rfl, fun k hk => absurd hk (by omega)⟩
  · intro n τ ⟨i1, i2⟩
    simp only [b_X1_copyRows_Iplace_2, g_X1_copyRows_Iplace_2]
    simp (disch := first | omega | assumption) only [ev_add, ev_mul, ev_rem, ev_sub, ev_ltT, ev_ltF, ev_leT, ev_leF, ev_eqT, ev_eqF, ev_cl, ev_in, gd_t, bd_s, lt_e, ev_of, ↓reduceIte, decide_true, true_or, or_true, ev_l0, ev_l1, ev_l2, ev_l3, ev_l4, ev_l5, ev_l6, ev_l7, ev_l8, ev_l9, ev_l10, ev_l11, ev_l12, ev_l13, ev_l14, ev_l15, ev_l16, ev_l17, ev_l18, ev_l19, ev_l20, ev_l21, ev_l22, ev_l23, ev_l24, ev_l25, ev_l26, ev_l30, ev_l31, ev_l32, ev_l37, ev_l40, ev_l41, ev_l43, ev_l48, ev_l49, ev_l51, ev_l55, ev_l57, ev_l58, ev_l60, ev_l61, ev_l79, ev_l85, ev_l91, ev_l99, ev_l100, ev_l107, ev_l115, ev_l127, ev_l140, ev_l215, ev_l220, ev_l920, ev_l9999, ev_nT, ev_nF, ev_nlT, ev_nlF]
    exact ⟨_, rfl, i1, i2⟩
  · intro n i τ hi ⟨i1, i2⟩ ih
    simp only [b_X1_copyRows_Iplace_2, g_X1_copyRows_Iplace_2]
    simp (disch := first | omega | assumption) only [ev_add, ev_mul, ev_rem, ev_sub, ev_ltT, ev_ltF, ev_leT, ev_leF, ev_eqT, ev_eqF, ev_cl, ev_in, gd_t, bd_s, lt_e, ev_of, ↓reduceIte, decide_true, true_or, or_true, ev_l0, ev_l1, ev_l2, ev_l3, ev_l4, ev_l5, ev_l6, ev_l7, ev_l8, ev_l9, ev_l10, ev_l11, ev_l12, ev_l13, ev_l14, ev_l15, ev_l16, ev_l17, ev_l18, ev_l19, ev_l20, ev_l21, ev_l22, ev_l23, ev_l24, ev_l25, ev_l26, ev_l30, ev_l31, ev_l32, ev_l37, ev_l40, ev_l41, ev_l43, ev_l48, ev_l49, ev_l51, ev_l55, ev_l57, ev_l58, ev_l60, ev_l61, ev_l79, ev_l85, ev_l91, ev_l99, ev_l100, ev_l107, ev_l115, ev_l127, ev_l140, ev_l215, ev_l220, ev_l920, ev_l9999, ev_nT, ev_nF, ev_nlT, ev_nlF, cp_e (t := t) (σ := τ) (a := 1 + i) (b := 21 + i) (N := 3) (by omega) (by omega) (la i hi) (lb i hi) (by omega)]
    refine ih _ ⟨fun b hb => ?_, fun k hk j hj => ?_⟩
    · rw [cp_o (by omega)]; exact i1 b hb
    · by_cases e : k = i
      · subst e
        rw [cp_i hj, i1 (1 + k) (by omega)]
      · rw [cp_o (by omega)]; exact i2 k (by omega) j hj
theorem cr_Ivoter {t : jx_T} {σ : jx_M} : ∃ σ', f_X1_copyRows_Ivoter t σ = some σ' ∧ (∀ b, ¬ (28 ≤ b ∧ b < 34) → σ' b = σ b) ∧ ∀ i, i < 6 → ∀ j, j < 8 → σ' (28 + i) j = σ (8 + i) j := by
  have la : ∀ i, i < 6 → ll_len (8 + i) = 8 := by decide
  have lb : ∀ i, i < 6 → ll_len (28 + i) = 8 := by decide
  unfold f_X1_copyRows_Ivoter
  refine lq_ (fun n i τ => ∃ σ', b_X1_copyRows_Ivoter_2 t n τ (nI i) = some σ' ∧ (∀ b, ¬ (28 ≤ b ∧ b < 34) → σ' b = σ b) ∧ ∀ i, i < 6 → ∀ j, j < 8 → σ' (28 + i) j = σ (8 + i) j) (fun i τ => (∀ b, ¬ (28 ≤ b ∧ b < 34) → τ b = σ b) ∧ ∀ k, k < i → ∀ j, j < 8 → τ (28 + k) j = σ (8 + k) j) 6 ?_ ?_ 0 σ (by omega) (by omega) ⟨fun _ _ => rfl, fun k hk => absurd hk (by omega)⟩
  · intro n τ ⟨i1, i2⟩
    simp only [b_X1_copyRows_Ivoter_2, g_X1_copyRows_Ivoter_2]
    simp (disch := first | omega | assumption) only [ev_add, ev_mul, ev_rem, ev_sub, ev_ltT, ev_ltF, ev_leT, ev_leF, ev_eqT, ev_eqF, ev_cl, ev_in, gd_t, bd_s, lt_e, ev_of, ↓reduceIte, decide_true, true_or, or_true, ev_l0, ev_l1, ev_l2, ev_l3, ev_l4, ev_l5, ev_l6, ev_l7, ev_l8, ev_l9, ev_l10, ev_l11, ev_l12, ev_l13, ev_l14, ev_l15, ev_l16, ev_l17, ev_l18, ev_l19, ev_l20, ev_l21, ev_l22, ev_l23, ev_l24, ev_l25, ev_l26, ev_l30, ev_l31, ev_l32, ev_l37, ev_l40, ev_l41, ev_l43, ev_l48, ev_l49, ev_l51, ev_l55, ev_l57, ev_l58, ev_l60, ev_l61, ev_l79, ev_l85, ev_l91, ev_l99, ev_l100, ev_l107, ev_l115, ev_l127, ev_l140, ev_l215, ev_l220, ev_l920, ev_l9999, ev_nT, ev_nF, ev_nlT, ev_nlF]
    exact ⟨_, rfl, i1, i2⟩
  · intro n i τ hi ⟨i1, i2⟩ ih
    simp only [b_X1_copyRows_Ivoter_2, g_X1_copyRows_Ivoter_2]
    simp (disch := first | omega | assumption) only [ev_add, ev_mul, ev_rem, ev_sub, ev_ltT, ev_ltF, ev_leT, ev_leF, ev_eqT, ev_eqF, ev_cl, ev_in, gd_t, bd_s, lt_e, ev_of, ↓reduceIte, decide_true, true_or, or_true, ev_l0, ev_l1, ev_l2, ev_l3, ev_l4, ev_l5, ev_l6, ev_l7, ev_l8, ev_l9, ev_l10, ev_l11, ev_l12, ev_l13, ev_l14, ev_l15, ev_l16, ev_l17, ev_l18, ev_l19, ev_l20, ev_l21, ev_l22, ev_l23, ev_l24, ev_l25, ev_l26, ev_l30, ev_l31, ev_l32, ev_l37, ev_l40, ev_l41, ev_l43, ev_l48, ev_l49, ev_l51, ev_l55, ev_l57, ev_l58, ev_l60, ev_l61, ev_l79, ev_l85, ev_l91, ev_l99, ev_l100, ev_l107, ev_l115, ev_l127, ev_l140, ev_l215, ev_l220, ev_l920, ev_l9999, ev_nT, ev_nF, ev_nlT, ev_nlF, cp_e (t := t) (σ := τ) (a := 8 + i) (b := 28 + i) (N := 8) (by omega) (by omega) (la i hi) (lb i hi) (by omega)]
    refine ih _ ⟨fun b hb => ?_, fun k hk j hj => ?_⟩
    · rw [cp_o (by omega)]; exact i1 b hb
    · by_cases e : k = i
      · subst e
        rw [cp_i hj, i1 (8 + k) (by omega)]
      · rw [cp_o (by omega)]; exact i2 k (by omega) j hj
theorem cr_Nplace {t : jx_T} {σ : jx_M} : ∃ σ', f_X1_copyRows_Nplace t σ = some σ' ∧ (∀ b, ¬ (1 ≤ b ∧ b < 8) → σ' b = σ b) ∧ ∀ i, i < 7 → ∀ j, j < 3 → σ' (1 + i) j = σ (21 + i) j := by
  have la : ∀ i, i < 7 → ll_len (21 + i) = 3 := by decide
  have lb : ∀ i, i < 7 → ll_len (1 + i) = 3 := by decide
  unfold f_X1_copyRows_Nplace
  refine lq_ (fun n i τ => ∃ σ', b_X1_copyRows_Nplace_2 t n τ (nI i) = some σ' ∧ (∀ b, ¬ (1 ≤ b ∧ b < 8) → σ' b = σ b) ∧ ∀ i, i < 7 → ∀ j, j < 3 → σ' (1 + i) j = σ (21 + i) j) (fun i τ => (∀ b, ¬ (1 ≤ b ∧ b < 8) → τ b = σ b) ∧ ∀ k, k < i → ∀ j, j < 3 → τ (1 + k) j = σ (21 + k) j) 7 ?_ ?_ 0 σ (by omega) (by omega) ⟨fun _ _ => rfl, fun k hk => absurd hk (by omega)⟩
  · intro n τ ⟨i1, i2⟩
    simp only [b_X1_copyRows_Nplace_2, g_X1_copyRows_Nplace_2]
    simp (disch := first | omega | assumption) only [ev_add, ev_mul, ev_rem, ev_sub, ev_ltT, ev_ltF, ev_leT, ev_leF, ev_eqT, ev_eqF, ev_cl, ev_in, gd_t, bd_s, lt_e, ev_of, ↓reduceIte, decide_true, true_or, or_true, ev_l0, ev_l1, ev_l2, ev_l3, ev_l4, ev_l5, ev_l6, ev_l7, ev_l8, ev_l9, ev_l10, ev_l11, ev_l12, ev_l13, ev_l14, ev_l15, ev_l16, ev_l17, ev_l18, ev_l19, ev_l20, ev_l21, ev_l22, ev_l23, ev_l24, ev_l25, ev_l26, ev_l30, ev_l31, ev_l32, ev_l37, ev_l40, ev_l41, ev_l43, ev_l48, ev_l49, ev_l51, ev_l55, ev_l57, ev_l58, ev_l60, ev_l61, ev_l79, ev_l85, ev_l91, ev_l99, ev_l100, ev_l107, ev_l115, ev_l127, ev_l140, ev_l215, ev_l220, ev_l920, ev_l9999, ev_nT, ev_nF, ev_nlT, ev_nlF]
    exact ⟨_, rfl, i1, i2⟩
  · intro n i τ hi ⟨i1, i2⟩ ih
    simp only [b_X1_copyRows_Nplace_2, g_X1_copyRows_Nplace_2]
    simp (disch := first | omega | assumption) only [ev_add, ev_mul, ev_rem, ev_sub, ev_ltT, ev_ltF, ev_leT, ev_leF, ev_eqT, ev_eqF, ev_cl, ev_in, gd_t, bd_s, lt_e, ev_of, ↓reduceIte, decide_true, true_or, or_true, ev_l0, ev_l1, ev_l2, ev_l3, ev_l4, ev_l5, ev_l6, ev_l7, ev_l8, ev_l9, ev_l10, ev_l11, ev_l12, ev_l13, ev_l14, ev_l15, ev_l16, ev_l17, ev_l18, ev_l19, ev_l20, ev_l21, ev_l22, ev_l23, ev_l24, ev_l25, ev_l26, ev_l30, ev_l31, ev_l32, ev_l37, ev_l40, ev_l41, ev_l43, ev_l48, ev_l49, ev_l51, ev_l55, ev_l57, ev_l58, ev_l60, ev_l61, ev_l79, ev_l85, ev_l91, ev_l99, ev_l100, ev_l107, ev_l115, ev_l127, ev_l140, ev_l215, ev_l220, ev_l920, ev_l9999, ev_nT, ev_nF, ev_nlT, ev_nlF, cp_e (t := t) (σ := τ) (a := 21 + i) (b := 1 + i) (N := 3) (by omega) (by omega) (la i hi) (lb i hi) (by omega)]
    refine ih _ ⟨fun b hb => ?_, fun k hk j hj => ?_⟩
    · rw [cp_o (by omega)]; exact i1 b hb
    · by_cases e : k = i
      · subst e
        rw [cp_i hj, i1 (21 + k) (by omega)]
      · rw [cp_o (by omega)]; exact i2 k (by omega) j hj
theorem cr_Nvoter {t : jx_T} {σ : jx_M} : ∃ σ', f_X1_copyRows_Nvoter t σ = some σ' ∧ (∀ b, ¬ (8 ≤ b ∧ b < 14) → σ' b = σ b) ∧ ∀ i, i < 6 → ∀ j, j < 8 → σ' (8 + i) j = σ (28 + i) j := by
  have la : ∀ i, i < 6 → ll_len (28 + i) = 8 := by decide
  have lb : ∀ i, i < 6 → ll_len (8 + i) = 8 := by decide
  unfold f_X1_copyRows_Nvoter
  refine lq_ (fun n i τ => ∃ σ', b_X1_copyRows_Nvoter_2 t n τ (nI i) = some σ' ∧ (∀ b, ¬ (8 ≤ b ∧ b < 14) → σ' b = σ b) ∧ ∀ i, i < 6 → ∀ j, j < 8 → σ' (8 + i) j = σ (28 + i) j) (fun i τ => (∀ b, ¬ (8 ≤ b ∧ b < 14) → τ b = σ b) ∧ ∀ k, k < i → ∀ j, j < 8 → τ (8 + k) j = σ (28 + k) j) 6 ?_ ?_ 0 σ (by omega) (by omega) ⟨fun _ _ => rfl, fun k hk => absurd hk (by omega)⟩
  · intro n τ ⟨i1, i2⟩
    simp only [b_X1_copyRows_Nvoter_2, g_X1_copyRows_Nvoter_2]
    simp (disch := first | omega | assumption) only [ev_add, ev_mul, ev_rem, ev_sub, ev_ltT, ev_ltF, ev_leT, ev_leF, ev_eqT, ev_eqF, ev_cl, ev_in, gd_t, bd_s, lt_e, ev_of, ↓reduceIte, decide_true, true_or, or_true, ev_l0, ev_l1, ev_l2, ev_l3, ev_l4, ev_l5, ev_l6, ev_l7, ev_l8, ev_l9, ev_l10, ev_l11, ev_l12, ev_l13, ev_l14, ev_l15, ev_l16, ev_l17, ev_l18, ev_l19, ev_l20, ev_l21, ev_l22, ev_l23, ev_l24, ev_l25, ev_l26, ev_l30, ev_l31, ev_l32, ev_l37, ev_l40, ev_l41, ev_l43, ev_l48, ev_l49, ev_l51, ev_l55, ev_l57, ev_l58, ev_l60, ev_l61, ev_l79, ev_l85, ev_l91, ev_l99, ev_l100, ev_l107, ev_l115, ev_l127, ev_l140, ev_l215, ev_l220, ev_l920, ev_l9999, ev_nT, ev_nF, ev_nlT, ev_nlF]
    exact ⟨_, rfl, i1, i2⟩
  · intro n i τ hi ⟨i1, i2⟩ ih
    simp only [b_X1_copyRows_Nvoter_2, g_X1_copyRows_Nvoter_2]
    simp (disch := first | omega | assumption) only [ev_add, ev_mul, ev_rem, ev_sub, ev_ltT, ev_ltF, ev_leT, ev_leF, ev_eqT, ev_eqF, ev_cl, ev_in, gd_t, bd_s, lt_e, ev_of, ↓reduceIte, decide_true, true_or, or_true, ev_l0, ev_l1, ev_l2, ev_l3, ev_l4, ev_l5, ev_l6, ev_l7, ev_l8, ev_l9, ev_l10, ev_l11, ev_l12, ev_l13, ev_l14, ev_l15, ev_l16, ev_l17, ev_l18, ev_l19, ev_l20, ev_l21, ev_l22, ev_l23, ev_l24, ev_l25, ev_l26, ev_l30, ev_l31, ev_l32, ev_l37, ev_l40, ev_l41, ev_l43, ev_l48, ev_l49, ev_l51, ev_l55, ev_l57, ev_l58, ev_l60, ev_l61, ev_l79, ev_l85, ev_l91, ev_l99, ev_l100, ev_l107, ev_l115, ev_l127, ev_l140, ev_l215, ev_l220, ev_l920, ev_l9999, ev_nT, ev_nF, ev_nlT, ev_nlF, cp_e (t := t) (σ := τ) (a := 28 + i) (b := 8 + i) (N := 8) (by omega) (by omega) (la i hi) (lb i hi) (by omega)]
    refine ih _ ⟨fun b hb => ?_, fun k hk j hj => ?_⟩
    · rw [cp_o (by omega)]; exact i1 b hb
    · by_cases e : k = i
      · subst e
        rw [cp_i hj, i1 (28 + k) (by omega)]
      · rw [cp_o (by omega)]; exact i2 k (by omega) j hj
theorem cc_I {t : jx_T} {σ : jx_M} : ∃ σ', f_X1_copy_I t σ = some σ' ∧ (∀ b, ¬ b = 0 → ¬ (21 ≤ b ∧ b ≤ 39) → σ' b = σ b) ∧ (∀ i, ¬ (10 ≤ i ∧ i < 17) → σ' 0 i = σ 0 i) ∧ (∀ i, i < 7 → σ' 0 (10 + i) = σ 0 (0 + i)) ∧ (∀ p, p < 7 → ∀ j, j < 3 → σ' (21 + p) j = σ (1 + p) j) ∧ (∀ v, v < 6 → ∀ j, j < 8 → σ' (28 + v) j = σ (8 + v) j) ∧ (∀ i, i < 100 → σ' 34 i = σ 14 i) ∧ (∀ i, i < 6 → σ' 35 i = σ 15 i ∧ σ' 36 i = σ 16 i) ∧ ∀ i, i < 8 → σ' 37 i = σ 17 i ∧ σ' 38 i = σ 18 i ∧ σ' 39 i = σ 19 i := by
  unfold f_X1_copy_I
  simp only [lt_e]
  generalize hμ : jx_mu (jx_mu (jx_mu (jx_mu (jx_mu (jx_mu (jx_mu σ 0 10 (σ 0 0)) 0 11 (jx_mu σ 0 10 (σ 0 0) 0 1)) 0 12 _) 0 13 _) 0 14 _) 0 15 _) 0 16 _ = μ
  have m0 : ∀ b, ¬ b = 0 → μ b = σ b := by
    intro b hb
    rw [← hμ]
    simp only [mu_a hb]
  have m1 : ∀ i, ¬ (10 ≤ i ∧ i < 17) → μ 0 i = σ 0 i := by
    intro i hi
    rw [← hμ]
    simp (disch := omega) only [mu_n]
  have m2 : ∀ i, i < 7 → μ 0 (10 + i) = σ 0 (0 + i) := by
    intro i hi
    have h : i = 0 ∨ i = 1 ∨ i = 2 ∨ i = 3 ∨ i = 4 ∨ i = 5 ∨ i = 6 := by omega
    rw [← hμ]
    rcases h with rfl | rfl | rfl | rfl | rfl | rfl | rfl
    all_goals simp (disch := omega) only [mu_n, mu_s, Nat.reduceAdd]
  obtain ⟨σ1, a1, a2, a3⟩ := cr_Iplace (t := ll_tI t) (σ := μ)
  obtain ⟨σ2, b1, b2, b3⟩ := cr_Ivoter (t := ll_tI t) (σ := σ1)
  rw [a1, bd_s, b1, bd_s]
  rw [cp_e (N := 100) (by omega) (by omega) (by decide) (by decide) (by omega), bd_s]
  rw [cp_e (N := 6) (by omega) (by omega) (by decide) (by decide) (by omega), bd_s]
  rw [cp_e (N := 6) (by omega) (by omega) (by decide) (by decide) (by omega), bd_s]
  rw [cp_e (N := 8) (by omega) (by omega) (by decide) (by decide) (by omega), bd_s]
  rw [cp_e (N := 8) (by omega) (by omega) (by decide) (by decide) (by omega), bd_s]
  rw [cp_e (N := 8) (by omega) (by omega) (by decide) (by decide) (by omega), bd_s]
  refine ⟨_, rfl, fun b h0 h1 => ?_, fun i hi => ?_, fun i hi => ?_, fun p hp j hj => ?_, fun v hv j hj => ?_, fun i hi => ?_, fun i hi => ⟨?_, ?_⟩, fun i hi => ⟨?_, ?_, ?_⟩⟩
  · simp (disch := omega) only [cp_o]; rw [b2 b (by omega), a2 b (by omega)]; exact m0 b h0
  · simp (disch := omega) only [cp_o]; rw [b2 0 (by omega), a2 0 (by omega)]; exact m1 i hi
  · simp (disch := omega) only [cp_o]; rw [b2 0 (by omega), a2 0 (by omega)]; exact m2 i hi
  · simp (disch := omega) only [cp_o]; rw [b2 _ (by omega), a3 p hp j hj]; rw [m0 _ (by omega)]
  · simp (disch := omega) only [cp_o]; rw [b3 v hv j hj, a2 _ (by omega)]; rw [m0 _ (by omega)]
  · simp (disch := omega) only [cp_o, cp_i]; rw [b2 _ (by omega), a2 _ (by omega)]; rw [m0 _ (by omega)]
  · simp (disch := omega) only [cp_o, cp_i]; rw [b2 _ (by omega), a2 _ (by omega)]; rw [m0 _ (by omega)]
  · simp (disch := omega) only [cp_o, cp_i]; rw [b2 _ (by omega), a2 _ (by omega)]; rw [m0 _ (by omega)]
  · simp (disch := omega) only [cp_o, cp_i]; rw [b2 _ (by omega), a2 _ (by omega)]; rw [m0 _ (by omega)]
  · simp (disch := omega) only [cp_o, cp_i]; rw [b2 _ (by omega), a2 _ (by omega)]; rw [m0 _ (by omega)]
  · simp (disch := omega) only [cp_o, cp_i]; rw [b2 _ (by omega), a2 _ (by omega)]; rw [m0 _ (by omega)]
theorem cc_N {t : jx_T} {σ : jx_M} : ∃ σ', f_X1_copy_N t σ = some σ' ∧ (∀ b, ¬ b = 0 → ¬ (1 ≤ b ∧ b ≤ 19) → σ' b = σ b) ∧ (∀ i, ¬ (0 ≤ i ∧ i < 7) → σ' 0 i = σ 0 i) ∧ (∀ i, i < 7 → σ' 0 (0 + i) = σ 0 (10 + i)) ∧ (∀ p, p < 7 → ∀ j, j < 3 → σ' (1 + p) j = σ (21 + p) j) ∧ (∀ v, v < 6 → ∀ j, j < 8 → σ' (8 + v) j = σ (28 + v) j) ∧ (∀ i, i < 100 → σ' 14 i = σ 34 i) ∧ (∀ i, i < 6 → σ' 15 i = σ 35 i ∧ σ' 16 i = σ 36 i) ∧ ∀ i, i < 8 → σ' 17 i = σ 37 i ∧ σ' 18 i = σ 38 i ∧ σ' 19 i = σ 39 i := by
  unfold f_X1_copy_N
  simp only [lt_e]
  generalize hμ : jx_mu (jx_mu (jx_mu (jx_mu (jx_mu (jx_mu (jx_mu σ 0 0 (σ 0 10)) 0 1 (jx_mu σ 0 0 (σ 0 10) 0 11)) 0 2 _) 0 3 _) 0 4 _) 0 5 _) 0 6 _ = μ
  have m0 : ∀ b, ¬ b = 0 → μ b = σ b := by
    intro b hb
    rw [← hμ]
    simp only [mu_a hb]
  have m1 : ∀ i, ¬ (0 ≤ i ∧ i < 7) → μ 0 i = σ 0 i := by
    intro i hi
    rw [← hμ]
    simp (disch := omega) only [mu_n]
  have m2 : ∀ i, i < 7 → μ 0 (0 + i) = σ 0 (10 + i) := by
    intro i hi
    have h : i = 0 ∨ i = 1 ∨ i = 2 ∨ i = 3 ∨ i = 4 ∨ i = 5 ∨ i = 6 := by omega
    rw [← hμ]
    rcases h with rfl | rfl | rfl | rfl | rfl | rfl | rfl
    all_goals simp (disch := omega) only [mu_n, mu_s, Nat.reduceAdd]
  obtain ⟨σ1, a1, a2, a3⟩ := cr_Nplace (t := ll_tN t) (σ := μ)
  obtain ⟨σ2, b1, b2, b3⟩ := cr_Nvoter (t := ll_tN t) (σ := σ1)
  rw [a1, bd_s, b1, bd_s]
  rw [cp_e (N := 100) (by omega) (by omega) (by decide) (by decide) (by omega), bd_s]
  rw [cp_e (N := 6) (by omega) (by omega) (by decide) (by decide) (by omega), bd_s]
  rw [cp_e (N := 6) (by omega) (by omega) (by decide) (by decide) (by omega), bd_s]
  rw [cp_e (N := 8) (by omega) (by omega) (by decide) (by decide) (by omega), bd_s]
  rw [cp_e (N := 8) (by omega) (by omega) (by decide) (by decide) (by omega), bd_s]
  rw [cp_e (N := 8) (by omega) (by omega) (by decide) (by decide) (by omega), bd_s]
  refine ⟨_, rfl, fun b h0 h1 => ?_, fun i hi => ?_, fun i hi => ?_, fun p hp j hj => ?_, fun v hv j hj => ?_, fun i hi => ?_, fun i hi => ⟨?_, ?_⟩, fun i hi => ⟨?_, ?_, ?_⟩⟩
  · simp (disch := omega) only [cp_o]; rw [b2 b (by omega), a2 b (by omega)]; exact m0 b h0
  · simp (disch := omega) only [cp_o]; rw [b2 0 (by omega), a2 0 (by omega)]; exact m1 i hi
  · simp (disch := omega) only [cp_o]; rw [b2 0 (by omega), a2 0 (by omega)]; exact m2 i hi
  · simp (disch := omega) only [cp_o]; rw [b2 _ (by omega), a3 p hp j hj]; rw [m0 _ (by omega)]
  · simp (disch := omega) only [cp_o]; rw [b3 v hv j hj, a2 _ (by omega)]; rw [m0 _ (by omega)]
  · simp (disch := omega) only [cp_o, cp_i]; rw [b2 _ (by omega), a2 _ (by omega)]; rw [m0 _ (by omega)]
  · simp (disch := omega) only [cp_o, cp_i]; rw [b2 _ (by omega), a2 _ (by omega)]; rw [m0 _ (by omega)]
  · simp (disch := omega) only [cp_o, cp_i]; rw [b2 _ (by omega), a2 _ (by omega)]; rw [m0 _ (by omega)]
  · simp (disch := omega) only [cp_o, cp_i]; rw [b2 _ (by omega), a2 _ (by omega)]; rw [m0 _ (by omega)]
  · simp (disch := omega) only [cp_o, cp_i]; rw [b2 _ (by omega), a2 _ (by omega)]; rw [m0 _ (by omega)]
  · simp (disch := omega) only [cp_o, cp_i]; rw [b2 _ (by omega), a2 _ (by omega)]; rw [m0 _ (by omega)]
theorem im_m {σ : jx_M} : ∃ σ', f_X6_image σ = some (σ 1 0, σ') ∧ (∀ b, ¬ b = 0 → ¬ b = 2 → σ' b = σ b) ∧ (∀ i, ¬ i = 3 → σ' 0 i = σ 0 i) ∧ σ' 0 3 = nI 1 ∧ ∀ k, k < 920 → σ' 2 k = σ 1 k := by
  unfold f_X6_image
  refine lq_ (fun n i τ => ∃ σ', b_X6_image_2 n τ (nI i) = some (σ 1 0, σ') ∧ (∀ b, ¬ b = 0 → ¬ b = 2 → σ' b = σ b) ∧ (∀ i, ¬ i = 3 → σ' 0 i = σ 0 i) ∧ σ' 0 3 = nI 1 ∧ ∀ k, k < 920 → σ' 2 k = σ 1 k) (fun i τ => (∀ b, ¬ b = 2 → τ b = σ b) ∧ ∀ k, k < i → τ 2 k = σ 1 k) 920 ?_ ?_ 0 σ (by omega) (by omega) ⟨fun _ _ => rfl, fun k hk => absurd hk (by omega)⟩
  · intro n τ ⟨i1, i2⟩
    simp only [b_X6_image_2, g_X6_image_2]
    simp (disch := first | omega | assumption) only [ev_add, ev_mul, ev_rem, ev_sub, ev_ltT, ev_ltF, ev_leT, ev_leF, ev_eqT, ev_eqF, ev_cl, ev_in, gd_t, bd_s, lt_e, ev_of, ↓reduceIte, decide_true, true_or, or_true, ev_l0, ev_l1, ev_l2, ev_l3, ev_l4, ev_l5, ev_l6, ev_l7, ev_l8, ev_l9, ev_l10, ev_l11, ev_l12, ev_l13, ev_l14, ev_l15, ev_l16, ev_l17, ev_l18, ev_l19, ev_l20, ev_l21, ev_l22, ev_l23, ev_l24, ev_l25, ev_l26, ev_l30, ev_l31, ev_l32, ev_l37, ev_l40, ev_l41, ev_l43, ev_l48, ev_l49, ev_l51, ev_l55, ev_l57, ev_l58, ev_l60, ev_l61, ev_l79, ev_l85, ev_l91, ev_l99, ev_l100, ev_l107, ev_l115, ev_l127, ev_l140, ev_l215, ev_l220, ev_l920, ev_l9999, ev_nT, ev_nF, ev_nlT, ev_nlF, mu_a]
    refine ⟨jx_mu τ 0 3 (nI 1), ?_, fun b h0 h2 => ?_, fun i hi => ?_, mu_s, fun k hk => ?_⟩
    · rw [i1 1 (by omega)]
    · rw [mu_a h0]; exact i1 b h2
    · rw [mu_n hi, i1 0 (by omega)]
    · rw [mu_a (by omega)]; exact i2 k hk
  · intro n i τ hi ⟨i1, i2⟩ ih
    simp only [b_X6_image_2, g_X6_image_2]
    simp (disch := first | omega | assumption) only [ev_add, ev_mul, ev_rem, ev_sub, ev_ltT, ev_ltF, ev_leT, ev_leF, ev_eqT, ev_eqF, ev_cl, ev_in, gd_t, bd_s, lt_e, ev_of, ↓reduceIte, decide_true, true_or, or_true, ev_l0, ev_l1, ev_l2, ev_l3, ev_l4, ev_l5, ev_l6, ev_l7, ev_l8, ev_l9, ev_l10, ev_l11, ev_l12, ev_l13, ev_l14, ev_l15, ev_l16, ev_l17, ev_l18, ev_l19, ev_l20, ev_l21, ev_l22, ev_l23, ev_l24, ev_l25, ev_l26, ev_l30, ev_l31, ev_l32, ev_l37, ev_l40, ev_l41, ev_l43, ev_l48, ev_l49, ev_l51, ev_l55, ev_l57, ev_l58, ev_l60, ev_l61, ev_l79, ev_l85, ev_l91, ev_l99, ev_l100, ev_l107, ev_l115, ev_l127, ev_l140, ev_l215, ev_l220, ev_l920, ev_l9999, ev_nT, ev_nF, ev_nlT, ev_nlF]
    refine ih _ ⟨fun b hb => ?_, fun k hk => ?_⟩
    · rw [mu_a hb]; exact i1 b hb
    · by_cases e : k = i
      · subst e; rw [mu_s, i1 1 (by omega)]
      · rw [mu_n e]; exact i2 k (by omega)
theorem un_m {σ : jx_M} : ∃ σ', b_X6_undo_12 jx_fuel σ (nI 0) = some (σ' 1 0, σ') ∧ (∀ b, ¬ b = 1 → σ' b = σ b) ∧ ∀ k, k < 920 → σ' 1 k = σ 2 k := by
  refine lq_ (fun n i τ => ∃ σ', b_X6_undo_12 n τ (nI i) = some (σ' 1 0, σ') ∧ (∀ b, ¬ b = 1 → σ' b = σ b) ∧ ∀ k, k < 920 → σ' 1 k = σ 2 k) (fun i τ => (∀ b, ¬ b = 1 → τ b = σ b) ∧ ∀ k, k < i → τ 1 k = σ 2 k) 920 ?_ ?_ 0 σ (by omega) (by omega) ⟨fun _ _ => rfl, fun k hk => absurd hk (by omega)⟩
  · intro n τ ⟨i1, i2⟩
    simp only [b_X6_undo_12, g_X6_undo_12]
    simp (disch := first | omega | assumption) only [ev_add, ev_mul, ev_rem, ev_sub, ev_ltT, ev_ltF, ev_leT, ev_leF, ev_eqT, ev_eqF, ev_cl, ev_in, gd_t, bd_s, lt_e, ev_of, ↓reduceIte, decide_true, true_or, or_true, ev_l0, ev_l1, ev_l2, ev_l3, ev_l4, ev_l5, ev_l6, ev_l7, ev_l8, ev_l9, ev_l10, ev_l11, ev_l12, ev_l13, ev_l14, ev_l15, ev_l16, ev_l17, ev_l18, ev_l19, ev_l20, ev_l21, ev_l22, ev_l23, ev_l24, ev_l25, ev_l26, ev_l30, ev_l31, ev_l32, ev_l37, ev_l40, ev_l41, ev_l43, ev_l48, ev_l49, ev_l51, ev_l55, ev_l57, ev_l58, ev_l60, ev_l61, ev_l79, ev_l85, ev_l91, ev_l99, ev_l100, ev_l107, ev_l115, ev_l127, ev_l140, ev_l215, ev_l220, ev_l920, ev_l9999, ev_nT, ev_nF, ev_nlT, ev_nlF]
    exact ⟨_, rfl, i1, i2⟩
  · intro n i τ hi ⟨i1, i2⟩ ih
    simp only [b_X6_undo_12, g_X6_undo_12]
    simp (disch := first | omega | assumption) only [ev_add, ev_mul, ev_rem, ev_sub, ev_ltT, ev_ltF, ev_leT, ev_leF, ev_eqT, ev_eqF, ev_cl, ev_in, gd_t, bd_s, lt_e, ev_of, ↓reduceIte, decide_true, true_or, or_true, ev_l0, ev_l1, ev_l2, ev_l3, ev_l4, ev_l5, ev_l6, ev_l7, ev_l8, ev_l9, ev_l10, ev_l11, ev_l12, ev_l13, ev_l14, ev_l15, ev_l16, ev_l17, ev_l18, ev_l19, ev_l20, ev_l21, ev_l22, ev_l23, ev_l24, ev_l25, ev_l26, ev_l30, ev_l31, ev_l32, ev_l37, ev_l40, ev_l41, ev_l43, ev_l48, ev_l49, ev_l51, ev_l55, ev_l57, ev_l58, ev_l60, ev_l61, ev_l79, ev_l85, ev_l91, ev_l99, ev_l100, ev_l107, ev_l115, ev_l127, ev_l140, ev_l215, ev_l220, ev_l920, ev_l9999, ev_nT, ev_nF, ev_nlT, ev_nlF]
    refine ih _ ⟨fun b hb => ?_, fun k hk => ?_⟩
    · rw [mu_a hb]; exact i1 b hb
    · by_cases e : k = i
      · subst e; rw [mu_s, i1 2 (by omega)]
      · rw [mu_n e]; exact i2 k (by omega)
theorem rt_c_c {ln ln' : Nat → Nat} {ct ct' : Nat → Nat → Int32} {F : rt_F} (h : rt_c ln ct F) (g : ∀ k, 1 ≤ k → k ≤ 4 → ln' k = ln k ∧ ct' k = ct k) : rt_c ln' ct' F := by
  intro t σ p q m w h1
  exact h t σ p q m w (fun k a b => ⟨(h1 k a b).1.trans (g k a b).1, (h1 k a b).2.trans (g k a b).2⟩)
theorem rn_m_c {s s' : Nat → Int32} {S : Nat → Nat} (h : rn_m s S) (g : ∀ k, k < 215 → s' k = s k) : rn_m s' S :=
  ⟨fun k hk h5 hs => (g k hk).trans (h.1 k hk h5 hs), (g 5 (by omega)).trans h.2.1, fun p hp => (g _ (by omega)).trans (h.2.2 p hp)⟩
theorem rt_m_c {s s' : Nat → Int32} {hd : Nat} {F : rt_F} (h : rt_m s hd F) (h5 : hd ≤ 5) (g : ∀ k, k < 920 → s' k = s k) : rt_m s' hd F := rt_m_congr h h5 (fun k _ h2 => g k h2)
/-- rows told over again elsewhere -/
theorem rn_c_t {n n' : Nat → Int32} {a a' : Nat → Nat → Int32} {S : Nat → Nat} (h : rn_c n a S) (hn : ∀ i, i < 7 → n' i = n i) (h1 : ∀ p, p < 7 → ∀ j, j < 3 → a' (1 + p) j = a (1 + p) j) (h2 : ∀ v, v < 6 → ∀ j, j < 8 → a' (8 + v) j = a (8 + v) j) (h3 : ∀ i, i < 100 → a' 14 i = a 14 i) (h4 : ∀ i, i < 6 → a' 15 i = a 15 i ∧ a' 16 i = a 16 i) (h5 : ∀ i, i < 8 → a' 17 i = a 17 i ∧ a' 18 i = a 18 i ∧ a' 19 i = a 19 i) : rn_c n' a' S := by
  obtain ⟨g1, g2, g3, g4, g5, g6⟩ := h
  refine ⟨?_, fun p hp => ?_, fun v hv => ?_, fun i hi => ?_, fun i hi => ?_, fun i hi => ?_⟩
  · rw [hn 0 (by omega), hn 1 (by omega), hn 2 (by omega), hn 3 (by omega), hn 4 (by omega), hn 5 (by omega), hn 6 (by omega)]; exact g1
  · rw [h1 p hp 0 (by omega), h1 p hp 1 (by omega), h1 p hp 2 (by omega)]; exact g2 p hp
  · rw [h2 v hv 0 (by omega), h2 v hv 1 (by omega), h2 v hv 2 (by omega), h2 v hv 3 (by omega), h2 v hv 4 (by omega)]
    exact ⟨(g3 v hv).1, fun j hj => (h2 v hv (5 + j) (by omega)).trans ((g3 v hv).2 j hj)⟩
  · rw [h3 i hi]; exact g4 i hi
  · rw [(h4 i hi).1, (h4 i hi).2]; exact g5 i hi
  · rw [(h5 i hi).1, (h5 i hi).2.1, (h5 i hi).2.2]; exact g6 i hi
theorem op_image : lw_op_image RR := by
  intro t σl σm hR
  obtain ⟨⟨S, F, hc, hm, hw, hb, htc, htm⟩, hi, ht, hst⟩ := hR
  obtain ⟨σl2, c1, c2, c3, c4, c5, c6, c7, c8, c9⟩ := cc_I (t := t) (σ := σl)
  obtain ⟨σm2, d1, d2, d3, d4, d5⟩ := im_m (σ := σm)
  have m0 : σm 1 0 = nI (S 0) := hm.1 0 (by omega) (by omega) (by omega)
  have n0 : σl 0 2 = nI (S 0) := hc.1.2.2.1
  have bw := hw.2.1
  have em : σm2 1 = σm 1 := d2 1 (by omega) (by omega)
  unfold f_X5_image
  rw [c1, bd_s, lt_e, d1]
  refine ⟨nI (S 0), jx_mu σl2 0 40 1, σm2, ?_, by rw [m0], ⟨S, F, ?_, ?_, hw, hb, rt_c_c htc (fun k h1 h2 => ?_), ?_⟩, Or.inr ⟨mu_s, d4, S, F, ?_, ?_, hw, hb, rt_c_c htc (fun k h1 h2 => ?_), ?_⟩, ?_, ?_⟩
  · rw [mu_n (by omega), c3 2 (by omega), n0]
  · refine rn_c_congr hc (fun i hi => ?_) (fun j h1 h2 => ?_)
    · rw [mu_n (by omega)]; exact c3 i (by omega)
    · rw [mu_a (by omega)]; exact c2 j (by omega) (by omega)
  · rw [em]; exact hm
  · have e : k % 10 = k := Nat.mod_eq_of_lt (by omega)
    exact ⟨congrArg t.2.1 e, congrArg t.2.2 e⟩
  · rw [em]; exact htm
  · refine rn_c_t hc (fun i hi => ?_) (fun p hp j hj => ?_) (fun v hv j hj => ?_) (fun i hi => ?_) (fun i hi => ?_) (fun i hi => ?_)
    · show jx_mu σl2 0 40 1 0 (10 + i) = _
      rw [mu_n (by omega), c4 i hi, Nat.zero_add]
    · show jx_mu σl2 0 40 1 (20 + (1 + p)) j = _
      rw [mu_a (by omega), show 20 + (1 + p) = 21 + p by omega]; exact c5 p hp j hj
    · show jx_mu σl2 0 40 1 (20 + (8 + v)) j = _
      rw [mu_a (by omega), show 20 + (8 + v) = 28 + v by omega]; exact c6 v hv j hj
    · show jx_mu σl2 0 40 1 34 i = _
      rw [mu_a (by omega)]; exact c7 i hi
    · show jx_mu σl2 0 40 1 35 i = _ ∧ jx_mu σl2 0 40 1 36 i = _
      rw [mu_a (by omega), mu_a (by omega)]; exact c8 i hi
    · show jx_mu σl2 0 40 1 37 i = _ ∧ jx_mu σl2 0 40 1 38 i = _ ∧ jx_mu σl2 0 40 1 39 i = _
      rw [mu_a (by omega), mu_a (by omega), mu_a (by omega)]; exact c9 i hi
  · exact rn_m_c hm (fun k hk => d5 k (by omega))
  · have e : (10 + k) % 10 = k := by omega
    exact ⟨congrArg t.2.1 e, congrArg t.2.2 e⟩
  · exact rt_m_c htm (by omega) d5
  · obtain ⟨r, h1, h2, h3, h4⟩ := ht
    refine ⟨r, h1, ?_, ?_, fun i hi hr => ?_⟩
    · rw [mu_n (by omega), c3 21 (by omega)]; exact h2
    · rw [d3 22 (by omega)]; exact h3
    · rw [mu_a (by omega), c2 60 (by omega) (by omega), d2 9 (by omega) (by omega)]; exact h4 i hi hr
  · rw [mu_n (by omega), c3 20 (by omega)]; exact hst
theorem op_undo : lw_op_undo RR := by
  intro t σl σm hR
  obtain ⟨⟨S, F, hc, hm, hw, hb, htc, htm⟩, hi, ht, hst⟩ := id hR
  unfold f_X5_undo f_X6_undo ll_tU
  rcases hi with ⟨g1, g2⟩ | ⟨g1, g2, S', F', k1, k2, k3, k4, k5, k6⟩
  · rw [if_pos g1, if_pos g2, if_pos g1]
    exact ⟨_, _, _, rfl, rfl, hR⟩
  · rw [if_neg (show ¬ σl 0 40 = 0 by rw [g1]; decide), if_neg (show ¬ σm 0 3 = 0 by rw [g2]; decide), if_neg (show ¬ σl 0 40 = 0 by rw [g1]; decide)]
    obtain ⟨σl2, c1, c2, c3, c4, c5, c6, c7, c8, c9⟩ := cc_N (t := t) (σ := σl)
    obtain ⟨σm2, d1, d2, d3⟩ := un_m (σ := σm)
    have bw := k3.2.1
    have n0 : σl2 0 2 = nI (S' 0) := (c4 2 (by omega)).trans k1.1.2.2.1
    have m0 : σm2 1 0 = nI (S' 0) := (d3 0 (by omega)).trans (k2.1 0 (by omega) (by omega) (by omega))
    rw [c1, bd_s, show b_X6_undo_12 jx_fuel σm 0 = _ from d1]
    refine ⟨nI (S' 0), σl2, σm2, by rw [n0], by rw [m0], ⟨S', F', ?_, ?_, k3, k4, rt_c_c k5 (fun k h1 h2 => ?_), ?_⟩, Or.inr ⟨(c3 40 (by omega)).trans g1, (congrFun (d2 0 (by omega)) 3).trans g2, S', F', ?_, ?_, k3, k4, rt_c_c k5 (fun k h1 h2 => ?_), ?_⟩, ?_, ?_⟩
    · refine rn_c_t k1 (fun i hi => ?_) (fun p hp j hj => ?_) (fun v hv j hj => ?_) (fun i hi => ?_) (fun i hi => ?_) (fun i hi => ?_)
      · have z := c4 i hi
        rw [Nat.zero_add] at z
        exact z
      · show _ = σl (20 + (1 + p)) j
        rw [show 20 + (1 + p) = 21 + p by omega]; exact c5 p hp j hj
      · show _ = σl (20 + (8 + v)) j
        rw [show 20 + (8 + v) = 28 + v by omega]; exact c6 v hv j hj
      · exact c7 i hi
      · exact c8 i hi
      · exact c9 i hi
    · exact rn_m_c k2 (fun k hk => d3 k (by omega))
    · have e : 10 + k % 10 = 10 + k := by omega
      exact ⟨congrArg t.2.1 e, congrArg t.2.2 e⟩
    · exact rt_m_c k6 (by omega) d3
    · exact rn_c_congr k1 (fun i hi => c3 (10 + i) (by omega)) (fun j h1 h2 => c2 (20 + j) (by omega) (by omega))
    · rw [d2 2 (by omega)]; exact k2
    · have e : 10 + (10 + k) % 10 = 10 + k := by omega
      exact ⟨congrArg t.2.1 e, congrArg t.2.2 e⟩
    · rw [d2 2 (by omega)]; exact k6
    · obtain ⟨r, h1, h2, h3, h4⟩ := ht
      refine ⟨r, h1, ?_, ?_, fun i hi hr => ?_⟩
      · rw [c3 21 (by omega)]; exact h2
      · rw [d2 0 (by omega)]; exact h3
      · rw [c2 60 (by omega) (by omega), d2 9 (by omega)]; exact h4 i hi hr
    · rw [c3 20 (by omega)]; exact hst
